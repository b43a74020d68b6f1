import java.lang.reflect.InvocationTargetException;
import java.lang.reflect.Method;
import java.util.ArrayList;
import java.util.List;
import java.util.Random;

/**
 * Random runs of calls, the same ones each time, whose answers must be those of the Model. A first argument gives another number of
 * runs than the usual one, a second one the number of the first run.
 */
public final class ModelTest {
    private static final int CALLS = 512;
    private static final int[] WILD = {Integer.MIN_VALUE, Integer.MAX_VALUE, -1, 0, 1, 19, 20, 21, 22, 126, 451, 1000, -1000000};
    private static final String[] EDITS = {"delete", "closeGap", "setWindow", "setSpeedLimit", "setFlyOver", "directTo", "insert"};
    private static final String[] FLIGHTS = {"fly", "fly", "fly", "resume", "resume"};
    private static final String[] SETTINGS = {"setWind", "setCruise", "setGradients", "setEnds", "addFix"};
    private static final String[] STATES = {"undo", "undo", "cancel", "load", "execute", "execute"};

    private final Random random;
    private final FlightLegs computer = new FlightLegs();
    private final Model model = new Model();
    private final int number;
    private final List<String> log = new ArrayList<>();
    private final List<Method> methods = new ArrayList<>();
    private int spread = 0;
    private int fixes = 0;

    private ModelTest(int number) {
        this.number = number;
        random = new Random(number);
        for (Method method : FlightLegs.class.getDeclaredMethods()) {
            if (java.lang.reflect.Modifier.isPublic(method.getModifiers())) {
                methods.add(method);
            }
        }
        methods.sort((a, b) -> a.getName().compareTo(b.getName()));
    }

    public static void main(String[] args) {
        int runs = args.length > 0 ? Integer.parseInt(args[0]) : 400;
        int first = args.length > 1 ? Integer.parseInt(args[1]) : 0;
        for (int number = first; number < first + runs; number++) {
            new ModelTest(number).run();
        }
        Script.end();
    }

    private void run() {
        spread = new int[] {40, 200, 600, 2000, 9999}[random.nextInt(5)];
        for (int i = 2 + random.nextInt(8); i > 0; i--) {
            call("addFix");
        }
        typeRoute(true);
        call("load");
        while (log.size() < CALLS) {
            int dice = random.nextInt(100);
            if (dice < 3 && log.size() < CALLS - 120) {
                typeRoute(random.nextInt(3) > 0);
            } else if (dice < 14) {
                call(pick(EDITS));
            } else if (dice < 24) {
                call(pick(FLIGHTS));
            } else if (dice < 28) {
                call(pick(STATES));
            } else if (dice < 31) {
                call(pick(SETTINGS));
            } else {
                call(methods.get(random.nextInt(methods.size())).getName());
            }
        }
    }

    private String pick(String[] names) {
        return names[random.nextInt(names.length)];
    }

    private int between(int low, int high) {
        return low + random.nextInt(high - low + 1);
    }

    private Method find(String name) {
        for (Method method : methods) {
            if (method.getName().equals(name)) {
                return method;
            }
        }
        throw new IllegalArgumentException(name);
    }

    private void call(String name) {
        if (log.size() >= CALLS || name.equals("type") || name.equals("clearText")) {
            return;
        }
        Method method = find(name);
        Object[] arguments = new Object[method.getParameterCount()];
        for (int i = 0; i < arguments.length; i++) {
            boolean truth = method.getParameterTypes()[i] == boolean.class;
            arguments[i] = truth ? (Object) random.nextBoolean() : (Object) argument(name, i);
        }
        compare(method, arguments);
    }

    private int argument(String name, int place) {
        if (random.nextInt(50) == 0) {
            return WILD[random.nextInt(WILD.length)];
        }
        return switch (name) {
            case "addFix" -> between(-spread, spread);
            case "setWind" -> between(-100, 100);
            case "setCruise" -> place == 0 ? between(5, 455) : between(95, 505);
            case "setGradients" -> between(95, 905);
            case "setEnds" -> random.nextBoolean() ? between(0, 60) : between(-5, 455);
            case "setWindow" -> place == 0 ? leg() : place == 1 ? between(0, 120) : between(60, 450);
            case "setSpeedLimit" -> place == 0 ? leg() : random.nextInt(4) == 0 ? 999 : between(99, 501);
            case "fly" -> between(0, random.nextBoolean() ? 100 : 1500);
            case "entryFor" -> between(-1, 24);
            case "insert", "delete", "closeGap", "setFlyOver", "directTo", "directSaving" -> leg();
            default -> place == 0 ? plan() : place == 2 ? between(0, 400) : name.startsWith("piece") ? between(0, 30) : leg();
        };
    }

    private int plan() {
        return model.legCount(1) < 0 ? 0 : random.nextInt(2);
    }

    private int leg() {
        return between(0, Math.max(1, model.legCount(plan())));
    }

    private void compare(Method method, Object... arguments) {
        StringBuilder line = new StringBuilder(method.getName());
        for (Object argument : arguments) {
            line.append(' ').append(argument);
        }
        log.add(line.toString());
        try {
            Method twin = Model.class.getDeclaredMethod(method.getName(), method.getParameterTypes());
            int want = (Integer) twin.invoke(model, arguments);
            int got = (Integer) method.invoke(computer, arguments);
            Script.due("run " + number + ", call " + log.size() + ": " + line, got, want);
            if (method.getName().equals("addFix") && want >= 0) {
                fixes = want + 1;
            }
        } catch (InvocationTargetException e) {
            throw new IllegalStateException("run " + number + ": " + String.join("; ", log), e.getCause());
        } catch (ReflectiveOperationException e) {
            throw new IllegalStateException(e);
        }
    }

    // ---- texts

    private void typeRoute(boolean faultless) {
        compare(find("clearText"));
        StringBuilder text = new StringBuilder();
        String last = "";
        for (int legs = between(1, faultless ? 8 : 13); legs > 0 && text.length() < 90; legs--) {
            last = kindAfter(last);
            text.append(text.length() == 0 ? "" : ";").append(leg(last));
        }
        if (!faultless) {
            int place = random.nextInt(text.length());
            char odd = " ;AZO+-9x?".charAt(random.nextInt(10));
            switch (random.nextInt(3)) {
                case 0 -> text.insert(place, odd);
                case 1 -> text.deleteCharAt(place);
                default -> text.setCharAt(place, odd);
            }
        }
        for (int i = 0; i < text.length() && log.size() < CALLS; i++) {
            compare(find("type"), (int) text.charAt(i));
        }
        call("textFault");
        call(random.nextInt(3) > 0 ? "insert" : "load");
    }

    private String kindAfter(String last) {
        if (last.isEmpty() && random.nextInt(4) > 0) {
            return "IF";
        }
        if (last.equals("CI") && random.nextInt(4) > 0) {
            return "CF";
        }
        return pick(new String[] {"TF", "TF", "TF", "TF", "DF", "DF", "CF", "CF", "CA", "CI", "CI", "HF", "IF", "VM"});
    }

    private String leg(String kind) {
        StringBuilder leg = new StringBuilder(kind);
        if (!kind.equals("CA") && !kind.equals("CI") && !kind.equals("VM")) {
            leg.append(' ').append((char) ('A' + random.nextInt(Math.max(1, fixes))));
        }
        if (!kind.equals("IF") && !kind.equals("TF") && !kind.equals("DF")) {
            leg.append(random.nextBoolean() ? " " : "").append(random.nextInt(24));
        }
        if (kind.equals("CA")) {
            leg.append(' ').append(between(0, 120));
        }
        if (kind.equals("HF")) {
            leg.append(random.nextBoolean() ? "L" : " R ").append(between(10, 200)).append(' ').append(between(1, 9));
        }
        while (random.nextInt(5) == 0) {
            leg.append(attribute());
        }
        return leg.toString();
    }

    private String attribute() {
        int low = between(0, 120);
        return switch (random.nextInt(6)) {
            case 0 -> " O";
            case 1 -> " A" + low;
            case 2 -> "+" + low;
            case 3 -> "- " + low;
            case 4 -> " B " + low + " " + between(low, 450);
            default -> " S" + between(100, 500);
        };
    }
}
