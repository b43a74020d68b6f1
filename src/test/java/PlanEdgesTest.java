/** The edges of plan, leg and piece numbers, in promises 29 to 61. Most titles quote the document. */
public final class PlanEdgesTest {
    private static final String[] OF_PLAN = {"legCount", "pieceCount", "topOfDescent", "gapCount", "totalLength", "totalTime",
        "violationCount"};
    private static final String[] OF_LEG = {"legKind", "legFix", "hasGap", "endX", "endY", "legCourse", "legLength", "legTime", "lengthTo",
        "turnKind", "turnSteps", "turnRadius", "turnLead", "holdEntry", "climbAltitude", "descentAltitude", "altitude", "violation"};
    private static final String[] OF_PIECE = {"pieceLeg", "pieceKind", "pieceLength", "pieceCourse", "pieceX", "pieceY"};
    private static final String[] NO_PLANS = {"-1", "2", "3", "-2147483648", "2147483647"};
    private static final String TWENTY = """
        fixes 0,0 0,300 300,300
        "IF A;TF B;TF C;TF A;TF B;TF C;TF A;TF B;TF C;TF A"
        load() = 10
        "TF B;TF C;TF A;TF B;TF C;TF A;TF B;TF C;TF A;HF B 0 R 50 2"
        insert(10) = 20
        """;

    public static void main(String[] args) {
        for (String call : OF_PLAN) {
            plans(call);
        }
        for (String call : OF_LEG) {
            legs(call);
            legsOfFullPlan(call);
        }
        for (String call : OF_PIECE) {
            pieces(call);
        }
        altitudesAt();
        plansAtFirst();
        lastLegOfTwenty();
        fixesOfLegs();
        manyCalls();
        Script.end();
    }

    private static String noPlans(String call, String behind) {
        StringBuilder script = new StringBuilder();
        for (String plan : NO_PLANS) {
            script.append(call).append('(').append(plan).append(behind).append(") = BAD_INDEX; ");
        }
        return script.toString();
    }

    private static void plans(String call) {
        String empty = call.equals("topOfDescent") ? "NONE" : "0";
        Script.run(call + ": BAD_INDEX if there is no such plan", """
            NO
            CALL(0) = EMPTY; CALL(1) = BAD_INDEX
            fixes 0,0
            "IF A"
            load() = 1; CALL(0) = EMPTY; CALL(1) = FIRST; NO
            undo() = 0; CALL(1) = BAD_INDEX; load() = 1; execute() = 1; CALL(0) = FIRST; CALL(1) = BAD_INDEX
            setFlyOver(0, true) = 0; CALL(1) = FIRST; cancel() = 1; CALL(1) = BAD_INDEX; NO
            """.replace("NO\n", noPlans(call, "") + "\n").replace("CALL", call).replace("EMPTY", empty)
            .replace("FIRST", call.equals("legCount") ? "1" : empty));
    }

    /** What each of the calls answers for the one leg IF A, at (0, 0). */
    private static String first(String call) {
        return call.equals("legCourse") || call.equals("holdEntry") ? "NONE" : "0";
    }

    private static void legs(String call) {
        Script.run(call + ": BAD_INDEX if there is no such plan or leg", """
            NO
            CALL(0, 0) = BAD_INDEX; CALL(0, -1) = BAD_INDEX; CALL(1, 0) = BAD_INDEX
            fixes 0,0
            "IF A"
            load() = 1; CALL(0, 0) = BAD_INDEX; CALL(1, -1) = BAD_INDEX; CALL(1, 0) = FIRST; CALL(1, 1) = BAD_INDEX; NO
            CALL(1, 20) = BAD_INDEX; CALL(1, 21) = BAD_INDEX; CALL(1, -2147483648) = BAD_INDEX; CALL(1, 2147483647) = BAD_INDEX
            execute() = 1; CALL(0, 0) = FIRST; CALL(0, 1) = BAD_INDEX; CALL(0, -1) = BAD_INDEX; CALL(1, 0) = BAD_INDEX
            CALL(0, -2147483648) = BAD_INDEX; CALL(0, 2147483647) = BAD_INDEX
            """.replace("NO\n", noPlans(call, ", 0") + "\n").replace("CALL", call).replace("FIRST", first(call)));
    }

    private static void legsOfFullPlan(String call) {
        Script.run(call + ": the last leg of a full plan, and no leg behind the last one of a shorter plan", TWENTY + """
            CALL(1, 20) = BAD_INDEX; CALL(0, 19) = BAD_INDEX; delete(19) = 19; CALL(1, 19) = BAD_INDEX; execute() = 19
            CALL(0, 19) = BAD_INDEX; CALL(1, 18) = BAD_INDEX
            """.replace("CALL", call));
    }

    private static void pieces(String call) {
        // One straight piece of length 1, in leg 1, to (0, 1) on course 0.
        String first = call.equals("pieceLeg") || call.equals("pieceLength") || call.equals("pieceY") ? "1" : "0";
        Script.run(call + ": BAD_INDEX if there is no such plan or piece", """
            NO
            CALL(0, 0) = BAD_INDEX; CALL(0, -1) = BAD_INDEX; CALL(1, 0) = BAD_INDEX
            fixes 0,0 0,1
            "IF A"
            load() = 1; CALL(1, 0) = BAD_INDEX; CALL(1, -1) = BAD_INDEX
            "IF A;TF B"
            load() = 2; CALL(0, 0) = BAD_INDEX; CALL(1, -1) = BAD_INDEX; CALL(1, 0) = FIRST; CALL(1, 1) = BAD_INDEX; NO
            CALL(1, 126) = BAD_INDEX; CALL(1, -2147483648) = BAD_INDEX; CALL(1, 2147483647) = BAD_INDEX; execute() = 2
            CALL(0, 0) = FIRST; CALL(0, 1) = BAD_INDEX; CALL(0, -1) = BAD_INDEX; CALL(1, 0) = BAD_INDEX
            """.replace("NO\n", noPlans(call, ", 0") + "\n").replace("CALL", call).replace("FIRST", first));
        Script.run(call + ": no piece of a path that was longer before", TWENTY + """
            execute() = 20
            "IF A;TF B"
            load() = 2; CALL(1, 1) = BAD_INDEX; execute() = 2; CALL(0, 1) = BAD_INDEX
            """.replace("CALL", call));
    }

    private static void altitudesAt() {
        Script.run("altitudeAt: BAD_INDEX if there is no such plan or leg; BAD_VALUE if length is out of range", """
            NO
            altitudeAt(0, 0, 0) = BAD_INDEX; altitudeAt(1, 0, 0) = BAD_INDEX; altitudeAt(0, 0, -1) = BAD_INDEX
            fixes 0,0 0,300
            "IF A;TF B"
            load() = 2; altitudeAt(0, 0, 0) = BAD_INDEX; altitudeAt(1, -1, 0) = BAD_INDEX; altitudeAt(1, 2, 0) = BAD_INDEX
            altitudeAt(1, 2, -1) = BAD_INDEX; altitudeAt(1, 0, -1) = BAD_VALUE; altitudeAt(1, 0, 0) = 0; altitudeAt(1, 0, 1) = BAD_VALUE
            altitudeAt(1, 1, -1) = BAD_VALUE; altitudeAt(1, 1, 0) = 0; altitudeAt(1, 1, 1) = 0; altitudeAt(1, 1, 299) = 0
            altitudeAt(1, 1, 300) = 0; altitudeAt(1, 1, 301) = BAD_VALUE; altitudeAt(1, 1, -2147483648) = BAD_VALUE
            altitudeAt(1, 1, 2147483647) = BAD_VALUE; altitudeAt(1, 2147483647, 0) = BAD_INDEX; altitudeAt(1, -2147483648, 0) = BAD_INDEX
            """.replace("NO\n", noPlans("altitudeAt", ", 0, 0") + "\n"));
    }

    private static void plansAtFirst() {
        Script.run("Plan 0 is the active plan; it has no legs at first. Plan 1 .. may exist or not (at first it does not)", """
            legCount(0) = 0; legCount(1) = BAD_INDEX; pieceCount(0) = 0; gapCount(0) = 0; totalLength(0) = 0; totalTime(0) = 0
            violationCount(0) = 0; topOfDescent(0) = NONE
            """);
        Script.run("While there is no modified plan, plan 1 does not exist", """
            fixes 0,0 0,300
            "IF A;TF B"
            load() = 2; legLength(1, 1) = 300; undo() = 0; legLength(1, 1) = BAD_INDEX; load() = 2; cancel() = 0
            legLength(1, 1) = BAD_INDEX; load() = 2; execute() = 2; legLength(1, 1) = BAD_INDEX; legLength(0, 1) = 300
            """);
    }

    private static void lastLegOfTwenty() {
        // To C and back to B: the turn at A, to B, has nine steps; the pattern is 2 * (100 + 314).
        Script.run("the last leg of 20 has all its values", TWENTY + """
            legKind(1, 19) = 7; legFix(1, 19) = 1; hasGap(1, 19) = 0; endX(1, 19) = 0; endY(1, 19) = 300; legCourse(1, 19) = 0
            holdEntry(1, 19) = 0; turnSteps(1, 19) = 9; turnKind(1, 19) = 2; turnRadius(1, 19) = 50; turnLead(1, 19) = 0
            descentAltitude(1, 19) = 0; altitude(1, 19) = 0; violation(1, 19) = 0; legCount(1) = 20; execute() = 20; legKind(0, 19) = 7
            legKind(0, 0) = 0; legFix(0, 0) = 0
            """);
    }

    private static void fixesOfLegs() {
        Script.run("NONE for the kinds CA, CI, VM and PP", """
            fixes 0,0 0,300
            "IF A;TF B;DF A;CF B 5;HF A 5 L 10 1;CA 5 5;CI 5;VM 5"
            load() = 8; legFix(1, 0) = 0; legFix(1, 1) = 1; legFix(1, 2) = 0; legFix(1, 3) = 1; legFix(1, 4) = 0; legFix(1, 5) = NONE
            legFix(1, 6) = NONE; legFix(1, 7) = NONE; legFix(1, 8) = BAD_INDEX; execute() = 8; directTo(4) = 5; legFix(1, 0) = NONE
            legKind(1, 0) = 8
            """);
    }

    private static void manyCalls() {
        StringBuilder script = new StringBuilder("""
            fixes 0,0 0,9999
            "IF A;TF B"
            load() = 2; execute() = 2
            """);
        for (int i = 1; i <= 248; i++) {
            script.append("fly(40) = 40; flownLength() = ").append(40 * i).append('\n');
        }
        Script.run("An object is used for at most 512 calls after it has been made", script + "positionY() = 9920\nfly(2000) = 79\n");
    }
}
