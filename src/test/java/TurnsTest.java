/** Promises 39 to 44: turns at the start of a leg, and the entries of holding patterns. */
public final class TurnsTest {
    public static void main(String[] args) {
        stepsAndSides();
        flownByOrOver();
        longEnough();
        radii();
        withinCourseToFix();
        inboundCourses();
        afterPresentPosition();
        entries();
        entriesOfLegs();
        Script.end();
    }

    private static void stepsAndSides() {
        Script.run("promises 39 to 42", """
            fixes 0,0 0,500 500,500 -500,500 0,1000 0,-200
            "IF A;TF B;TF C;IF A;TF B;TF D;IF A;TF B;TF E;IF A;TF B;TF F"
            load() = 12; turnKind(1, 0) = 0; turnSteps(1, 0) = 0; turnRadius(1, 0) = 0; turnLead(1, 0) = 0; turnKind(1, 1) = 0
            turnSteps(1, 1) = 0; turnRadius(1, 1) = 0; turnLead(1, 1) = 0; turnKind(1, 2) = 1; turnSteps(1, 2) = 6
            turnRadius(1, 2) = 50; turnLead(1, 2) = 50; turnKind(1, 5) = 1; turnSteps(1, 5) = -6; turnLead(1, 5) = 50
            turnKind(1, 8) = 0; turnSteps(1, 8) = 0; turnRadius(1, 8) = 0; turnKind(1, 11) = 2; turnSteps(1, 11) = 12
            turnRadius(1, 11) = 50; turnLead(1, 11) = 0
            """);
    }

    private static void flownByOrOver() {
        // 120 degrees are flown by with the lead 86, 135 are not.
        Script.run("eight steps at most", """
            fixes 0,-400 0,0 346,-200 300,-300 -346,-200 -300,-300
            "IF A;TF B;TF C;IF A;TF B;TF D;IF A;TF B;TF E;IF A;TF B;TF F"
            load() = 12; turnKind(1, 2) = 1; turnSteps(1, 2) = 8; turnLead(1, 2) = 86; turnKind(1, 5) = 2; turnSteps(1, 5) = 9
            turnLead(1, 5) = 0; turnKind(1, 8) = 1; turnSteps(1, 8) = -8; turnKind(1, 11) = 2; turnSteps(1, 11) = -9
            """);
        Script.run("leads of 1 to 7 steps", """
            fixes 0,0 0,500
            "IF A;TF B;VM 1;IF A;TF B;VM 2;IF A;TF B;VM 3;IF A;TF B;VM 4"
            load() = 12; turnLead(1, 2) = 6; turnLead(1, 5) = 13; turnLead(1, 8) = 20; turnLead(1, 11) = 28
            "IF A;TF B;VM 5;IF A;TF B;VM 6;IF A;TF B;VM 7;IF A;TF B;VM 17"
            load() = 12; turnLead(1, 2) = 38; turnLead(1, 5) = 50; turnKind(1, 8) = 2; turnLead(1, 8) = 0; setCruise(300, 300) = 300
            turnLead(1, 8) = 36; turnKind(1, 8) = 1; turnLead(1, 11) = 36; turnSteps(1, 11) = -7
            """);
        int[][] leads = {{1, 412, 6}, {1, 349, 5}, {2, 363, 10}, {2, 424, 15}, {3, 363, 16}, {3, 305, 12}, {4, 380, 25}, {4, 289, 15},
            {5, 371, 32}, {5, 310, 23}, {6, 500, 78}, {6, 100, 3}, {7, 325, 42}, {7, 371, 56}, {8, 424, 96}, {8, 363, 71}};
        for (int[] lead : leads) {
            Script.run("leads to the last digit", """
                fixes 0,0
                "IF A;CA 20 300;CA NEXT 450"
                load() = 3; setCruise(300, SPEED) = 300; turnLead(1, 2) = LEAD; turnSteps(1, 2) = STEPS; turnKind(1, 2) = 1
                """.replace("NEXT", "" + (20 + lead[0]) % 24).replace("SPEED", "" + lead[1]).replace("LEAD", "" + lead[2])
                .replace("STEPS", "" + lead[0]));
        }
        Script.run("more than twelve steps to the right are less to the left", """
            fixes 0,0
            "IF A;CA 5 300;CA 16 330;CA 5 360;CA 17 390;CA 4 420"
            load() = 6; turnSteps(1, 2) = 11; turnSteps(1, 3) = -11; turnSteps(1, 4) = 12; turnSteps(1, 5) = 11
            """);
        Script.run("a mark of the leg before", """
            fixes 0,0 0,500 500,500
            "IF A;TF B O;TF C"
            load() = 3; turnKind(1, 2) = 2; turnLead(1, 2) = 0; turnRadius(1, 2) = 50; turnSteps(1, 2) = 6; setFlyOver(1, false) = 1
            turnKind(1, 2) = 1; setFlyOver(2, true) = 0; turnKind(1, 2) = 1; setFlyOver(0, true) = 0; turnKind(1, 2) = 1
            """);
        Script.run("a leg without segments lies between: the mark of the leg that leads in counts", """
            fixes 0,0 0,500 500,500
            "IF A;TF B O;TF B;TF C"
            load() = 4; turnKind(1, 3) = 2; setFlyOver(1, false) = 1; setFlyOver(2, true) = 0; turnKind(1, 3) = 1
            legLength(1, 1) = 450
            """);
    }

    private static void longEnough() {
        Script.run("twice the lead before the turn", """
            fixes 0,0 0,100 300,100 0,1
            "IF A;TF B;TF C;IF D;TF B;TF C"
            load() = 6; turnKind(1, 2) = 1; turnLead(1, 2) = 50; turnKind(1, 5) = 2; turnLead(1, 5) = 0
            """);
        Script.run("and behind it", """
            fixes 0,0 0,300 100,300 99,300
            "IF A;TF B;TF C;IF A;TF B;TF D"
            load() = 6; turnKind(1, 2) = 1; turnKind(1, 5) = 2
            """);
    }

    private static void radii() {
        Script.run("the greater ground speed of both", """
            fixes 0,0 0,500 500,500
            "IF A;TF B S 200;TF C S 300"
            load() = 3; turnRadius(1, 2) = 28; setSpeedLimit(1, 350) = 200; turnRadius(1, 2) = 38; setWind(99, 0) = 1
            turnRadius(1, 2) = 49; setWind(0, 99) = 1; turnRadius(1, 2) = 63; setWind(0, -99) = 1; turnRadius(1, 2) = 28
            setSpeedLimit(1, 100) = 350; setSpeedLimit(2, 100) = 300; setWind(-99, -99) = 1; turnRadius(1, 2) = 1
            """);
    }

    private static void withinCourseToFix() {
        // From (300, 0) the first segment goes to (250, 300) on course 23; the turn there is too great for the second one.
        Script.run("the turn of a CF leg is that at its first segment", """
            fixes 0,0 300,300 300,0
            "IF A;TF C;CF B 6"
            load() = 3; turnKind(1, 2) = 1; turnSteps(1, 2) = -7; turnLead(1, 2) = 65; pieceCount(1) = 5; pieceKind(1, 3) = 1
            pieceLeg(1, 3) = 2; pieceCourse(1, 3) = 6; pieceLength(1, 3) = 91
            """);
        // The first segment ends at (300, 250); the turn of three steps there has the lead 20.
        Script.run("a turn within a CF leg is flown by in spite of a mark", """
            fixes 0,0 300,300
            "IF A;CF B 0 O;VM 3"
            load() = 3; turnKind(1, 1) = 0; turnSteps(1, 1) = 0; turnRadius(1, 1) = 0; pieceLength(1, 0) = 370; pieceKind(1, 1) = 1
            pieceLength(1, 1) = 39; pieceLength(1, 2) = 30
            turnKind(1, 2) = 2; setFlyOver(1, false) = 1; pieceLength(1, 0) = 370; turnKind(1, 2) = 1; pieceLength(1, 2) = 10
            """);
        // The first segment has no length: the turn is at the start of the leg, after the TF leg.
        Script.run("without a first segment", """
            fixes 0,0 300,0 300,50
            "IF A;TF B;CF C 0"
            load() = 3; turnKind(1, 2) = 2; turnSteps(1, 2) = -6; setCruise(300, 280) = 300; turnLead(1, 2) = 24
            turnKind(1, 2) = 1; setFlyOver(1, true) = 0; turnKind(1, 2) = 2
            """);
    }

    private static void inboundCourses() {
        Script.run("none after a leg that starts anew", """
            fixes 0,0 0,500 500,500 500,0
            "IF A;TF B;IF C;TF D;VM 6;TF A;TF B"
            load() = 7; turnKind(1, 3) = 0; turnKind(1, 4) = 1; turnKind(1, 6) = 0
            "IF A;TF B;TF C;TF D"
            load() = 4; delete(2) = 3; turnKind(1, 2) = 0; closeGap(2) = 0; turnKind(1, 2) = 2; turnSteps(1, 2) = 9
            """);
        // After the pattern the inbound course is 6, and the inbound length that of its straight sides.
        Script.run("after a pattern", """
            fixes 0,0 0,300
            "HF A 6 R 100 1;TF B;HF B 0 L 99 1;VM 6"
            load() = 4; turnKind(1, 1) = 1; turnSteps(1, 1) = -6; turnLead(1, 1) = 50; turnKind(1, 3) = 2; turnSteps(1, 3) = 6
            "HF A 6 R 99 1;TF B"
            load() = 2; turnKind(1, 1) = 2
            "HF A 6 R 100 1 O;TF B"
            load() = 2; turnKind(1, 1) = 2
            """);
    }

    private static void afterPresentPosition() {
        Script.run("always flown over after a PP leg", """
            fixes 0,0 0,500 300,600 0,300 0,320
            "IF A;TF B;TF C"
            load() = 3; setCruise(300, 100) = 300; execute() = 3; fly(300) = 300; directTo(2) = 2; turnKind(1, 1) = 2
            turnSteps(1, 1) = 3; turnRadius(1, 1) = 3; turnLead(1, 1) = 0
            """);
        // A radius of 3 and a turn of one step have the lead 0, for which no inbound length is too short.
        Script.run("even if the lead is 0", """
            fixes 0,0 0,500 30,600 0,300
            "IF A;TF B;TF C"
            load() = 3; setCruise(300, 100) = 300; execute() = 3; turnKind(0, 2) = 1; turnLead(0, 2) = 0; turnSteps(0, 2) = 1
            fly(499) = 499; directTo(2) = 2; turnSteps(1, 1) = 1; turnKind(1, 1) = 2
            """);
    }

    private static void entries() {
        for (int arrival = 0; arrival < 24; arrival++) {
            for (int inbound = 0; inbound < 24; inbound++) {
                FlightLegs computer = new FlightLegs();
                int right = (arrival - inbound + 24) % 24;
                int left = (inbound - arrival + 24) % 24;
                Script.due("entryFor right", computer.entryFor(arrival, inbound, true), entry(right));
                Script.due("entryFor left", computer.entryFor(arrival, inbound, false), entry(left));
            }
        }
        Script.run("promise 44", """
            entryFor(-1, 0, true) = BAD_VALUE; entryFor(24, 0, true) = BAD_VALUE; entryFor(0, -1, false) = BAD_VALUE
            entryFor(0, 24, false) = BAD_VALUE; entryFor(2147483647, -2147483648, true) = BAD_VALUE
            """);
    }

    private static int entry(int angle) {
        return "000000001111222222220000".charAt(angle) - '0';
    }

    private static void entriesOfLegs() {
        Script.run("promise 43", """
            fixes 0,0 0,300
            "IF A;HF B 0 R 50 1;IF A;HF B 15 R 50 1;IF A;HF B 12 R 50 1;IF A;HF B 8 R 50 1;IF A;HF B 9 L 50 1"
            load() = 10; holdEntry(1, 0) = NONE; holdEntry(1, 1) = 0; holdEntry(1, 3) = 1; holdEntry(1, 5) = 2; holdEntry(1, 7) = 2
            holdEntry(1, 9) = 1
            """);
        Script.run("without a segment", """
            fixes 0,0 0,300
            "HF A 12 R 50 1;IF B;HF B 12 R 50 1;IF A;TF B;HF B 12 R 50 1;HF B 0 R 50 1"
            load() = 7; holdEntry(1, 0) = 0; holdEntry(1, 2) = 0; holdEntry(1, 5) = 2; holdEntry(1, 6) = 2; delete(4) = 6
            hasGap(1, 4) = 1; holdEntry(1, 4) = 0; holdEntry(1, 5) = 2
            """);
        Script.run("from the present position", """
            fixes 0,0 0,300
            "IF A;TF B;HF B 12 R 50 1"
            load() = 3; execute() = 3; fly(300) = 300; currentLeg() = 2; directTo(2) = 2; presentCourse() = 12; holdEntry(1, 1) = 0
            """);
    }
}
