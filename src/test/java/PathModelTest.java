import java.util.Random;

/**
 * Random plans, the same ones each time, of which every value of every leg and piece must be that of the Model; then they are flown in
 * short steps. The fixes lie on a grid, so that points, courses and lengths often meet just at an edge. A first argument gives another
 * number of runs than the usual one, a second one the number of the first run.
 */
public final class PathModelTest {
    private static final String[] OF_LEG = {"hasGap", "endX", "endY", "legCourse", "legLength", "legTime", "turnKind", "turnSteps",
        "turnRadius", "turnLead", "holdEntry", "climbAltitude", "descentAltitude", "altitude", "violation"};
    private static final String[] OF_PIECE = {"pieceLeg", "pieceKind", "pieceLength", "pieceCourse", "pieceX", "pieceY"};
    private static final String[] OF_PLAN = {"gapCount", "totalLength", "totalTime", "violationCount", "topOfDescent"};
    private static final String[] OF_FLIGHT = {"currentLeg", "flownLength", "positionX", "positionY", "presentCourse"};

    private final Random random;
    private final RandomRoute routes;
    private final Pair pair;

    private PathModelTest(int number) {
        random = new Random(number);
        routes = new RandomRoute(random, new int[] {1, 2, 3, 6}[number % 4]);
        pair = new Pair("plan " + number);
    }

    public static void main(String[] args) {
        int runs = args.length > 0 ? Integer.parseInt(args[0]) : 400;
        int first = args.length > 1 ? Integer.parseInt(args[1]) : 0;
        for (int number = first; number < first + runs; number++) {
            new PathModelTest(number).run();
        }
        Script.end();
    }

    private void run() {
        int grid = new int[] {1, 10, 50, 100, 300}[random.nextInt(5)];
        int fixes = between(2, 7);
        for (int i = 0; i < fixes; i++) {
            pair.ask("addFix", between(-4, 4) * grid, between(-4, 4) * grid);
        }
        settings();
        pair.type(routes.text(fixes, 10, 80).toString());
        pair.ask("load");
        if (random.nextBoolean()) {
            edit();
        }
        if (random.nextBoolean()) {
            lookAtAll();
        } else {
            fly();
        }
    }

    private int between(int low, int high) {
        return low + random.nextInt(high - low + 1);
    }

    private void settings() {
        if (random.nextBoolean()) {
            pair.ask("setWind", between(-99, 99), between(-99, 99));
        }
        pair.ask("setCruise", between(10, 450), random.nextBoolean() ? 100 * between(1, 5) : between(100, 500));
        if (random.nextBoolean()) {
            pair.ask("setGradients", between(100, 900), between(100, 900), between(100, 900));
            pair.ask("setEnds", between(0, 100), between(0, 100));
        }
    }

    private void edit() {
        int legs = pair.legCount(1);
        pair.ask("delete", between(1, legs));
        pair.ask("setFlyOver", between(0, legs), random.nextBoolean());
        pair.ask("setSpeedLimit", between(0, legs), between(100, 500));
        pair.ask("closeGap", between(1, legs));
    }

    private void lookAtAll() {
        for (String call : OF_PLAN) {
            pair.ask(call, 1);
        }
        for (int leg = 0; leg < pair.legCount(1); leg++) {
            for (String call : OF_LEG) {
                pair.ask(call, 1, leg);
            }
        }
        for (int piece = 0; piece < pair.pieceCount(1); piece++) {
            for (String call : OF_PIECE) {
                pair.ask(call, 1, piece);
            }
        }
    }

    private void fly() {
        pair.ask("execute");
        while (!pair.isUsedUp()) {
            pair.ask("fly", between(0, new int[] {3, 60, 600}[random.nextInt(3)]));
            for (String call : OF_FLIGHT) {
                pair.ask(call);
            }
            pair.ask("directSaving", between(0, pair.legCount(0)));
            switch (random.nextInt(12)) {
                case 0 -> settings();
                case 1 -> goDirect();
                default -> pair.ask("resume");
            }
        }
    }

    private void goDirect() {
        if (pair.ask("directTo", between(0, pair.legCount(0))) > 0) {
            pair.ask("legLength", 1, 1);
            pair.ask("pieceCount", 1);
            pair.ask(random.nextInt(3) > 0 ? "execute" : "undo");
        }
    }
}
