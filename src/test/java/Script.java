import java.util.ArrayList;
import java.util.List;
import java.util.Map;

/**
 * Runs calls on a new object, written as in the document: {@code legLength(1, 1) = 200; undo() = BAD_STATE}. A line in quotes is
 * typed as the new text. {@code fixes 0,0 0,200} adds fixes. A call with an error code as its answer must also change nothing.
 */
final class Script {
    /** What an object answers after so many calls is free. */
    static final int MOST_CALLS = 512;
    private static final Map<String, Integer> NAMES = Map.of("NONE", -1000000, "BAD_INDEX", -1000001, "BAD_VALUE", -1000002,
        "BAD_STATE", -1000003, "FULL", -1000004);
    private static int compared = 0;
    private static int wrong = 0;

    private final String title;
    private final FlightLegs computer = new FlightLegs();
    private final List<Call> calls = new ArrayList<>();

    private Script(String title) {
        this.title = title;
    }

    static void run(String title, String script) {
        Script run = new Script(title);
        for (String line : script.split("\n")) {
            run.line(line.strip());
        }
    }

    /** Ends a test: with code 1 if an answer was not due. */
    static void end() {
        System.out.println(compared + " answers compared, " + wrong + " wrong");
        if (wrong != 0 || compared == 0) {
            System.exit(1);
        }
    }

    static void due(String call, int got, int want) {
        compared++;
        if (got != want) {
            wrong++;
            System.out.println(call + " answered " + got + ", due is " + want);
        }
    }

    static boolean isError(int answer) {
        return answer >= -1000004 && answer <= -1000001;
    }

    private void line(String line) {
        if (line.startsWith("\"")) {
            typeText(line.substring(1, line.length() - 1));
        } else if (line.startsWith("fixes ")) {
            for (String fix : line.substring(6).split(" +")) {
                String[] xy = fix.split(",");
                make(Call.of("addFix", Integer.parseInt(xy[0]), Integer.parseInt(xy[1])));
            }
        } else {
            for (String call : line.split(";")) {
                if (!call.isBlank()) {
                    call(call.strip());
                }
            }
        }
    }

    private int make(Call call) {
        calls.add(call);
        if (calls.size() > MOST_CALLS) {
            throw new IllegalStateException(title + ": more than " + MOST_CALLS + " calls");
        }
        return call.on(computer);
    }

    private void typeText(String text) {
        make(Call.of("clearText"));
        for (int i = 0; i < text.length(); i++) {
            due(title + ": typing " + text, make(Call.of("type", (int) text.charAt(i))), i + 1);
        }
    }

    private void call(String line) {
        int open = line.indexOf('(');
        int close = line.indexOf(')');
        int equals = line.indexOf('=');
        String list = line.substring(open + 1, close).strip();
        String[] words = list.isEmpty() ? new String[0] : list.split(" *, *");
        Call call = Call.of(line.substring(0, open), arguments(Call.types(line.substring(0, open)), words));
        int want = value(line.substring(equals + 1).strip());
        due(title + ": " + line, make(call), want);
        if (isError(want)) {
            Twins.mustBeAlike(title + ": " + call, calls.subList(0, calls.size() - 1), call);
        }
    }

    private static Object[] arguments(Class<?>[] types, String[] words) {
        Object[] arguments = new Object[words.length];
        for (int i = 0; i < words.length; i++) {
            boolean truth = i < types.length && types[i] == boolean.class;
            arguments[i] = truth ? (Object) words[i].equals("true") : (Object) value(words[i]);
        }
        return arguments;
    }

    private static int value(String word) {
        Integer named = NAMES.get(word);
        return named != null ? named : Integer.parseInt(word);
    }
}
