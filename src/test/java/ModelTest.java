import java.lang.reflect.Method;
import java.util.ArrayList;
import java.util.List;
import java.util.Random;

/**
 * Random runs of calls, the same ones each time, whose answers must be those of the Model. A first argument gives another number of
 * runs than the usual one, a second one the number of the first run.
 */
public final class ModelTest {
    private static final int[] WILD = {Integer.MIN_VALUE, Integer.MAX_VALUE, -1, 0, 1, 19, 20, 21, 22, 126, 451, 1000, -1000000};
    private static final String[] EDITS = {"delete", "closeGap", "setWindow", "setSpeedLimit", "setFlyOver", "directTo", "insert"};
    private static final String[] FLIGHTS = {"fly", "fly", "fly", "resume", "resume"};
    private static final String[] SETTINGS = {"setWind", "setCruise", "setGradients", "setEnds", "addFix"};
    private static final String[] STATES = {"undo", "undo", "cancel", "load", "execute", "execute"};

    private final Random random;
    private final RandomRoute routes;
    private final Pair pair;
    private final List<String> names = new ArrayList<>();
    private int spread = 0;
    private int fixes = 0;

    private ModelTest(int number) {
        random = new Random(number);
        routes = new RandomRoute(random, 1);
        pair = new Pair("run " + number);
        for (Method method : FlightLegs.class.getDeclaredMethods()) {
            if (java.lang.reflect.Modifier.isPublic(method.getModifiers())) {
                names.add(method.getName());
            }
        }
        names.removeAll(List.of("type", "clearText"));
        names.sort(String::compareTo);
    }

    public static void main(String[] args) {
        int runs = args.length > 0 ? Integer.parseInt(args[0]) : 400;
        int first = args.length > 1 ? Integer.parseInt(args[1]) : 0;
        for (int number = first; number < first + runs; number++) {
            new ModelTest(number).run();
        }
        Script.end();
    }

    private void run() {
        spread = new int[] {40, 200, 600, 2000, 9999}[random.nextInt(5)];
        for (int i = 2 + random.nextInt(8); i > 0; i--) {
            call("addFix");
        }
        typeRoute(true);
        call("load");
        while (!pair.isUsedUp()) {
            int dice = random.nextInt(100);
            if (dice < 3 && pair.calls() < Script.MOST_CALLS - 120) {
                typeRoute(random.nextInt(3) > 0);
            } else if (dice < 14) {
                call(pick(EDITS));
            } else if (dice < 24) {
                call(pick(FLIGHTS));
            } else if (dice < 28) {
                call(pick(STATES));
            } else if (dice < 31) {
                call(pick(SETTINGS));
            } else {
                call(names.get(random.nextInt(names.size())));
            }
        }
    }

    private String pick(String[] calls) {
        return calls[random.nextInt(calls.length)];
    }

    private int between(int low, int high) {
        return low + random.nextInt(high - low + 1);
    }

    private void call(String name) {
        Class<?>[] types = Call.types(name);
        Object[] arguments = new Object[types.length];
        for (int i = 0; i < arguments.length; i++) {
            arguments[i] = types[i] == boolean.class ? (Object) random.nextBoolean() : (Object) argument(name, i);
        }
        int answer = pair.ask(name, arguments);
        if (name.equals("addFix") && answer >= 0) {
            fixes = answer + 1;
        }
    }

    private int argument(String name, int place) {
        if (random.nextInt(50) == 0) {
            return WILD[random.nextInt(WILD.length)];
        }
        return switch (name) {
            case "addFix" -> between(-spread, spread);
            case "setWind" -> between(-100, 100);
            case "setCruise" -> place == 0 ? between(5, 455) : between(95, 505);
            case "setGradients" -> between(95, 905);
            case "setEnds" -> random.nextBoolean() ? between(0, 60) : between(-5, 455);
            case "setWindow" -> place == 0 ? leg() : place == 1 ? between(0, 120) : between(60, 450);
            case "setSpeedLimit" -> place == 0 ? leg() : random.nextInt(4) == 0 ? 999 : between(99, 501);
            case "fly" -> between(0, random.nextBoolean() ? 100 : 1500);
            case "entryFor" -> between(-1, 24);
            case "insert", "delete", "closeGap", "setFlyOver", "directTo", "directSaving" -> leg();
            default -> place == 0 ? plan() : place == 2 ? between(0, 400) : name.startsWith("piece") ? between(0, 30) : leg();
        };
    }

    private int plan() {
        return pair.legCount(1) < 0 ? 0 : random.nextInt(2);
    }

    private int leg() {
        return between(0, Math.max(1, pair.legCount(plan())));
    }

    private void typeRoute(boolean faultless) {
        StringBuilder text = routes.text(fixes, faultless ? 8 : 13, 90);
        if (!faultless) {
            int place = random.nextInt(text.length());
            char odd = " ;AZO+-9x?".charAt(random.nextInt(10));
            switch (random.nextInt(3)) {
                case 0 -> text.insert(place, odd);
                case 1 -> text.deleteCharAt(place);
                default -> text.setCharAt(place, odd);
            }
        }
        pair.type(text.toString());
        call("textFault");
        call(random.nextInt(3) > 0 ? "insert" : "load");
    }
}
