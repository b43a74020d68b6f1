import java.util.ArrayList;
import java.util.List;

/**
 * What a refused call must leave unchanged: everything. Two new objects run the same calls, one of them the refused call as well;
 * then both must give the same answers, to calls that only look and to calls that bring to light what cannot be looked at.
 */
final class Twins {
    private static final String[] OF_PLAN = {"legCount", "pieceCount", "topOfDescent", "gapCount", "totalLength", "totalTime",
        "violationCount"};
    private static final String[] OF_LEG = {"legKind", "legFix", "hasGap", "endX", "endY", "legCourse", "legLength", "legTime",
        "turnKind", "turnSteps", "turnRadius", "turnLead", "holdEntry", "climbAltitude", "descentAltitude", "violation"};
    private static final String[] OF_PIECE = {"pieceLeg", "pieceKind", "pieceLength", "pieceCourse", "pieceX", "pieceY"};
    private static final String[] OF_FLIGHT = {"currentLeg", "flownLength", "positionX", "positionY", "presentCourse"};

    private final String title;
    private final List<Call> before;
    private final Call refused;

    private Twins(String title, List<Call> before, Call refused) {
        this.title = title;
        this.before = before;
        this.refused = refused;
    }

    static void mustBeAlike(String title, List<Call> before, Call refused) {
        Twins twins = new Twins(title, before, refused);
        twins.compare(twins.looks());
        twins.compare(texts());
        twins.compare(states());
        twins.compare(twins.marks());
        twins.compare(settings());
        twins.compare(flight("cancel"));
        twins.compare(flight("execute"));
    }

    private FlightLegs replayed() {
        FlightLegs computer = new FlightLegs();
        for (Call call : before) {
            call.on(computer);
        }
        return computer;
    }

    /** Compares the answers, with new twins each time that the calls of an object are used up. */
    private void compare(List<Call> probes) {
        int next = 0;
        int room = Math.max(1, Script.MOST_CALLS - before.size() - 1);
        while (next < probes.size()) {
            FlightLegs without = replayed();
            FlightLegs with = replayed();
            refused.on(with);
            for (int many = 0; many < room && next < probes.size(); many++, next++) {
                Call probe = probes.get(next);
                Script.due(title + " must change nothing, but then " + probe, probe.on(with), probe.on(without));
            }
        }
    }

    private static void look(List<Call> probes, String... names) {
        for (String name : names) {
            probes.add(Call.of(name));
        }
    }

    private static void look(List<Call> probes, int plan, String... names) {
        for (String name : names) {
            probes.add(Call.of(name, plan));
        }
    }

    private static void look(List<Call> probes, int plan, int place, String... names) {
        for (String name : names) {
            probes.add(Call.of(name, plan, place));
        }
    }

    private List<Call> looks() {
        FlightLegs model = replayed();
        List<Call> probes = new ArrayList<>();
        look(probes, OF_FLIGHT);
        look(probes, "textFault");
        for (int plan = 0; plan < 2; plan++) {
            look(probes, plan, OF_PLAN);
            for (int leg = 0; leg < model.legCount(plan); leg++) {
                look(probes, plan, leg, OF_LEG);
            }
            for (int piece = 0; piece < model.pieceCount(plan); piece++) {
                look(probes, plan, piece, OF_PIECE);
            }
        }
        return probes;
    }

    private static List<Call> texts() {
        List<Call> probes = new ArrayList<>();
        look(probes, "textFault", "load");
        for (int leg = 0; leg < 12; leg++) {
            look(probes, 1, leg, "legKind", "legFix", "legLength", "legTime", "climbAltitude", "descentAltitude", "turnKind");
        }
        probes.add(Call.of("type", 32));
        look(probes, "textFault", "clearText", "clearText", "textFault");
        return probes;
    }

    private static List<Call> states() {
        List<Call> probes = new ArrayList<>();
        for (int state = 0; state < 7; state++) {
            look(probes, "undo");
            look(probes, 1, OF_PLAN);
            look(probes, 1, 0, "legKind", "legTime");
            look(probes, 1, 1, "legKind", "legTime", "climbAltitude");
        }
        return probes;
    }

    /** The speed limits, marks and the current leg of the plan that an edit would change, by the answers of such edits. */
    private List<Call> marks() {
        FlightLegs model = replayed();
        int legs = Math.max(model.legCount(0), model.legCount(1));
        List<Call> probes = new ArrayList<>();
        for (int leg = 0; leg < legs; leg++) {
            probes.add(Call.of("setSpeedLimit", leg, 300));
            probes.add(Call.of("setFlyOver", leg, false));
            probes.add(Call.of("closeGap", leg));
        }
        return probes;
    }

    /** A plan of its own, in which each setting shows. */
    private static List<Call> settings() {
        List<Call> probes = new ArrayList<>();
        probes.add(Call.of("addFix", 1, 2));
        look(probes, "clearText");
        for (char code : "IF A;CA 3 200;CA 7 50;CA 3 99".toCharArray()) {
            probes.add(Call.of("type", (int) code));
        }
        look(probes, "load");
        for (int leg = 0; leg < 4; leg++) {
            look(probes, 1, leg, "endX", "endY", "legLength", "legTime", "turnRadius", "climbAltitude", "descentAltitude", "violation");
        }
        probes.add(Call.of("setCruise", 300, 400));
        probes.add(Call.of("setGradients", 300, 318, 500));
        probes.add(Call.of("setEnds", 0, 0));
        return probes;
    }

    private static List<Call> flight(String begin) {
        List<Call> probes = new ArrayList<>();
        look(probes, begin);
        for (int length : new int[] {0, 1, 100, 2000}) {
            look(probes, OF_FLIGHT);
            probes.add(Call.of("fly", length));
        }
        look(probes, "undo", "resume");
        look(probes, OF_FLIGHT);
        return probes;
    }
}
