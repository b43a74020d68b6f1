import java.lang.reflect.InvocationTargetException;
import java.util.ArrayList;
import java.util.List;

/** An object of the class and a Model, which are given the same calls and must give the same answers. */
final class Pair {
    private final String title;
    private final FlightLegs computer = new FlightLegs();
    private final Model model = new Model();
    private final List<String> log = new ArrayList<>();

    Pair(String title) {
        this.title = title;
    }

    int calls() {
        return log.size();
    }

    boolean isUsedUp() {
        return log.size() >= Script.MOST_CALLS;
    }

    int legCount(int plan) {
        return model.legCount(plan);
    }

    int pieceCount(int plan) {
        return model.pieceCount(plan);
    }

    /** Makes a call on both, and returns the answer that is due; without a call if they are used up. */
    int ask(String name, Object... arguments) {
        if (isUsedUp()) {
            return Model.NONE;
        }
        Call call = Call.of(name, arguments);
        log.add(call.toString());
        try {
            int want = (Integer) Model.class.getDeclaredMethod(name, Call.types(name)).invoke(model, arguments);
            Script.due(title + ", call " + log.size() + ": " + call, call.on(computer), want);
            return want;
        } catch (InvocationTargetException e) {
            throw new IllegalStateException(title + ": " + String.join("; ", log), e.getCause());
        } catch (ReflectiveOperationException e) {
            throw new IllegalStateException(e);
        }
    }

    void type(String text) {
        ask("clearText");
        for (int i = 0; i < text.length(); i++) {
            ask("type", (int) text.charAt(i));
        }
    }
}
