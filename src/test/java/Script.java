import java.lang.reflect.InvocationTargetException;
import java.lang.reflect.Method;
import java.util.HashMap;
import java.util.Map;

/**
 * Runs calls on a new object, written as in the document: {@code legLength(1, 1) = 200; undo() = BAD_STATE}. A line in quotes is
 * typed as the new text. {@code fixes 0,0 0,200} adds fixes.
 */
final class Script {
    private static final Map<String, Method> METHODS = new HashMap<>();
    private static final Map<String, Integer> NAMES = Map.of("NONE", -1000000, "BAD_INDEX", -1000001, "BAD_VALUE", -1000002,
        "BAD_STATE", -1000003, "FULL", -1000004);
    private static int compared = 0;
    private static int wrong = 0;

    static {
        for (Method method : FlightLegs.class.getDeclaredMethods()) {
            if (java.lang.reflect.Modifier.isPublic(method.getModifiers())) {
                METHODS.put(method.getName(), method);
            }
        }
    }

    private final String title;
    private final FlightLegs computer = new FlightLegs();

    private Script(String title) {
        this.title = title;
    }

    static void run(String title, String script) {
        Script run = new Script(title);
        for (String line : script.split("\n")) {
            run.line(line.strip());
        }
    }

    /** Ends a test: with code 1 if an answer was not due. */
    static void end() {
        System.out.println(compared + " answers compared, " + wrong + " wrong");
        if (wrong != 0 || compared == 0) {
            System.exit(1);
        }
    }

    static void due(String call, int got, int want) {
        compared++;
        if (got != want) {
            wrong++;
            System.out.println(call + " answered " + got + ", due is " + want);
        }
    }

    private void line(String line) {
        if (line.startsWith("\"")) {
            typeText(line.substring(1, line.length() - 1));
        } else if (line.startsWith("fixes ")) {
            for (String fix : line.substring(6).split(" +")) {
                String[] xy = fix.split(",");
                computer.addFix(Integer.parseInt(xy[0]), Integer.parseInt(xy[1]));
            }
        } else {
            for (String call : line.split(";")) {
                if (!call.isBlank()) {
                    call(call.strip());
                }
            }
        }
    }

    private void typeText(String text) {
        computer.clearText();
        for (int i = 0; i < text.length(); i++) {
            due(title + ": typing " + text, computer.type(text.charAt(i)), i + 1);
        }
    }

    private void call(String call) {
        int open = call.indexOf('(');
        int close = call.indexOf(')');
        int equals = call.indexOf('=');
        Method method = METHODS.get(call.substring(0, open));
        if (method == null) {
            throw new IllegalArgumentException("no such method: " + call);
        }
        String list = call.substring(open + 1, close).strip();
        String[] words = list.isEmpty() ? new String[0] : list.split(" *, *");
        due(title + ": " + call, answer(method, words), value(call.substring(equals + 1).strip()));
    }

    private int answer(Method method, String[] words) {
        Object[] arguments = new Object[words.length];
        for (int i = 0; i < words.length; i++) {
            boolean truth = method.getParameterTypes()[i] == boolean.class;
            arguments[i] = truth ? (Object) words[i].equals("true") : (Object) value(words[i]);
        }
        try {
            return (Integer) method.invoke(computer, arguments);
        } catch (InvocationTargetException e) {
            throw new IllegalStateException(title + ": " + method.getName() + " threw", e.getCause());
        } catch (IllegalAccessException e) {
            throw new IllegalStateException(e);
        }
    }

    private static int value(String word) {
        Integer named = NAMES.get(word);
        return named != null ? named : Integer.parseInt(word);
    }
}
