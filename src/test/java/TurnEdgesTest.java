/** The edges of inbound courses and turns, and of promises 39 to 42. Most titles quote the document. */
public final class TurnEdgesTest {
    public static void main(String[] args) {
        noTurn();
        stepsToBothSides();
        leastRadius();
        radii();
        greaterGroundSpeed();
        mostStepsFlownBy();
        lengthBefore();
        lengthBehind();
        leadWithoutLength();
        marks();
        withinCourseToFix();
        firstSegmentOfCourseToFix();
        legsWithoutSegments();
        newStarts();
        afterPatterns();
        afterPresentPosition();
        Script.end();
    }

    private static void noTurn() {
        Script.run("there is a turn if the course b of the segment is different from a", """
            fixes 0,0
            "IF A;CA 5 30;CA 5 60;CA 6 90;CA 5 120"
            load() = 5; turnKind(1, 0) = 0; turnSteps(1, 0) = 0; turnRadius(1, 0) = 0; turnLead(1, 0) = 0; turnKind(1, 1) = 0
            turnKind(1, 2) = 0; turnSteps(1, 2) = 0; turnRadius(1, 2) = 0; turnLead(1, 2) = 0; turnKind(1, 3) = 1; turnSteps(1, 3) = 1
            turnRadius(1, 3) = 50; turnLead(1, 3) = 6; turnKind(1, 4) = 1; turnSteps(1, 4) = -1; turnLead(1, 4) = 6
            """);
    }

    private static void steps(int from, int to, int want) {
        Script.run("If n is at most 12, the turn is to the right and has n steps, otherwise it is to the left and has 24 - n steps", """
            fixes 0,0
            "IF A;CA FROM 60;CA TO 120"
            load() = 3; turnSteps(1, 2) = STEPS; pieceLength(1, 1) = ARC; pieceKind(1, 1) = 1
            """.replace("FROM", "" + from).replace("TO", "" + to).replace("STEPS", "" + want)
            .replace("ARC", "" + 50 * Math.abs(want) * 262 / 1000));
    }

    private static void stepsToBothSides() {
        steps(0, 1, 1);
        steps(0, 11, 11);
        steps(0, 12, 12);
        steps(0, 13, -11);
        steps(0, 23, -1);
        steps(23, 0, 1);
        steps(23, 10, 11);
        steps(23, 11, 12);
        steps(23, 12, -11);
        steps(23, 22, -1);
        steps(12, 0, 12);
        steps(12, 23, 11);
        steps(12, 1, -11);
        steps(1, 0, -1);
        steps(22, 2, 4);
        steps(2, 22, -4);
    }

    private static void leastRadius() {
        // Both courses have the wind times 966 / 1000 along them: the ground speeds are 57, 56, 80 and 79.
        Script.run("R = g * g / 3200, but at least 1, the radius", """
            fixes 0,0
            "IF A;CA 5 90 S 100;CA 7 180 S 100"
            load() = 3; setWind(-45, 0) = 1; turnRadius(1, 2) = 1; setWind(-46, 0) = 1; turnRadius(1, 2) = 1; setWind(-99, 0) = 1
            turnRadius(1, 2) = 1; turnLead(1, 2) = 0; turnKind(1, 2) = 1; setWind(-21, 0) = 1; turnRadius(1, 2) = 2; setWind(-22, 0) = 1
            turnRadius(1, 2) = 1; setWind(0, 0) = 1; turnRadius(1, 2) = 3
            """);
    }

    private static void radii() {
        // 400 * 400 = 160000 = 50 * 3200, and 399 * 399 = 159201; 456 * 456 is 64 less than 65 * 3200, 463 * 463 is 31 less than
        // 67 * 3200; 500 + 95 = 595: 354025 / 3200 = 110.
        Script.run("R = g * g / 3200", """
            fixes 0,0
            "IF A;CA 5 300;CA 7 450"
            load() = 3; turnRadius(1, 2) = 50; setCruise(300, 399) = 300; turnRadius(1, 2) = 49; setCruise(300, 401) = 300
            turnRadius(1, 2) = 50; setCruise(300, 404) = 300; turnRadius(1, 2) = 51; setCruise(300, 403) = 300; turnRadius(1, 2) = 50
            setCruise(300, 456) = 300; turnRadius(1, 2) = 64; setCruise(300, 463) = 300; turnRadius(1, 2) = 66
            setCruise(300, 500) = 300; setWind(99, 0) = 1; turnRadius(1, 2) = 110; turnLead(1, 2) = 29
            """);
    }

    private static void greaterGroundSpeed() {
        Script.run("g the greater one of the ground speeds of the inbound leg on a and of the leg of the segment on b", """
            fixes 0,0 0,600 600,600
            "IF A;TF B S 320;TF C S 240"
            load() = 3; turnRadius(1, 2) = 32; setSpeedLimit(2, 320) = 240; turnRadius(1, 2) = 32; setSpeedLimit(2, 330) = 320
            turnRadius(1, 2) = 34; setSpeedLimit(2, 240) = 330; setWind(0, -80) = 1; turnRadius(1, 2) = 18; setWind(80, -80) = 1
            turnRadius(1, 2) = 32; setWind(-99, 0) = 1; turnRadius(1, 2) = 32; setWind(99, 0) = 1; turnRadius(1, 2) = 35
            setWind(0, 99) = 1; turnRadius(1, 2) = 54
            """);
        Script.run("the speed limits of other legs do not count", """
            fixes 0,0 0,600 600,600 600,0
            "IF A S 100;TF B S 320;TF C S 320;TF D S 500"
            load() = 4; turnRadius(1, 2) = 32; turnRadius(1, 3) = 50; setSpeedLimit(3, 200) = 500; turnRadius(1, 3) = 32
            """);
    }

    private static void mostStepsFlownBy() {
        Script.run("The turn is flown by if d is at most 8", """
            fixes 0,0
            "IF A;CA 20 300;CA 4 0;IF A;CA 20 300;CA 4 450"
            load() = 6; turnKind(1, 2) = 2
            "IF A;CA 20 150;CA 4 300;CA 12 450"
            load() = 4; turnSteps(1, 2) = 8; turnKind(1, 2) = 1; turnLead(1, 2) = 86; turnSteps(1, 3) = 8; turnKind(1, 3) = 1
            "IF A;CA 20 150;CA 5 300;CA 20 450"
            load() = 4; turnSteps(1, 2) = 9; turnKind(1, 2) = 2; turnLead(1, 2) = 0; turnRadius(1, 2) = 50; turnSteps(1, 3) = -9
            turnKind(1, 3) = 2; turnLead(1, 3) = 0
            "IF A;CA 4 150;CA 20 300;CA 8 450"
            load() = 4; turnSteps(1, 2) = -8; turnKind(1, 2) = 1; turnLead(1, 2) = 86; turnSteps(1, 3) = 12; turnKind(1, 3) = 2
            """);
    }

    private static void lengthBefore() {
        // The lead of six steps is 50, of eight 86.
        Script.run("the inbound length .. at least 2 * m", """
            fixes 0,0 0,99 0,100 0,101 500,99 500,100 500,101
            "IF A;TF B;TF E;IF A;TF C;TF F;IF A;TF D;TF G"
            load() = 9; turnKind(1, 2) = 2; turnLead(1, 2) = 0; turnKind(1, 5) = 1; turnLead(1, 5) = 50; turnKind(1, 8) = 1
            legLength(1, 1) = 99; legLength(1, 4) = 50; legLength(1, 7) = 51
            """);
        Script.run("at least twice the lead of eight steps", """
            fixes 0,0 0,171 0,172
            "IF A;TF B;CA 8 300;IF A;TF C;CA 16 450"
            load() = 6; turnKind(1, 2) = 2; turnSteps(1, 2) = 8; turnSteps(1, 5) = -8; turnKind(1, 5) = 1; turnLead(1, 5) = 86
            legLength(1, 1) = 171; legLength(1, 4) = 86
            """);
    }

    private static void lengthBehind() {
        Script.run("and the length of the segment are both at least 2 * m", """
            fixes 0,0 0,300 99,300 100,300 101,300
            "IF A;TF B;TF C;IF A;TF B;TF D;IF A;TF B;TF E"
            load() = 9; turnKind(1, 2) = 2; turnLead(1, 2) = 0; turnKind(1, 5) = 1; turnLead(1, 5) = 50; turnKind(1, 8) = 1
            legLength(1, 1) = 300; legLength(1, 4) = 250
            """);
        // The lead of two steps is 13: a CA leg of 26 is long enough; the VM leg of 100 is for six steps, not for seven (65).
        Script.run("segments of other kinds", """
            fixes 0,0 0,300
            "IF A;TF B;CA 2 8;IF A;TF B;CA 2 16;IF A;TF B;CA 2 23;IF A"
            load() = 10; turnKind(1, 2) = 1; turnKind(1, 5) = 1; turnLead(1, 5) = 13; turnKind(1, 8) = 2; turnLead(1, 8) = 0
            "IF A;TF B;VM 6;IF A;TF B;VM 7;IF A;TF B;CI 6;IF A;TF B;CI 7"
            load() = 12; turnKind(1, 2) = 1; turnKind(1, 5) = 2; turnKind(1, 8) = 1; turnKind(1, 11) = 2
            """);
    }

    private static void leadWithoutLength() {
        // The radius 3 and one or two steps make the lead 0, for which no segment is too short: 2 * 0 = 0.
        Script.run("a lead of 0 is flown by, however short the segments are", """
            fixes 0,0 0,1 1,3
            "IF A;TF B;TF C"
            load() = 3; setCruise(300, 100) = 300; turnSteps(1, 2) = 2; turnRadius(1, 2) = 3; turnKind(1, 2) = 1; turnLead(1, 2) = 0
            setFlyOver(1, true) = 0; turnKind(1, 2) = 2
            """);
    }

    private static void marks() {
        Script.run("any other one is if the inbound leg is marked so", """
            fixes 0,0 0,300 300,300 300,0
            "IF A O;TF B;TF C O;TF D"
            load() = 4; turnKind(1, 2) = 1; turnKind(1, 3) = 2; turnLead(1, 3) = 0; setFlyOver(2, false) = 1; turnKind(1, 3) = 1
            setFlyOver(3, true) = 0; turnKind(1, 3) = 1; setFlyOver(1, true) = 0; turnKind(1, 2) = 2; turnKind(1, 3) = 1
            """);
        for (String leg : new String[] {"TF B", "DF B", "CF B 0", "CA 0 90"}) {
            Script.run("a mark of any kind of leg: " + leg, """
                fixes 0,0 0,300
                "IF A;LEG;CA 6 300;IF A;LEG O;CA 6 300"
                load() = 6; turnKind(1, 5) = 2; turnSteps(1, 5) = 6; turnSteps(1, 2) = 6
                """.replace("LEG", leg));
        }
    }

    private static void withinCourseToFix() {
        // The first segment is 390 on course 3 to (300, 250), the second 50 on course 0: three steps, the lead 20.
        Script.run("a turn within a CF leg never is", """
            fixes 0,0 300,300 -200,-200
            "IF A;CF B 0 O"
            load() = 2; pieceCount(1) = 3; pieceLength(1, 0) = 370; pieceLength(1, 1) = 39; pieceLength(1, 2) = 30
            setFlyOver(0, true) = 0; pieceCount(1) = 3; pieceLength(1, 0) = 370
            "IF C;TF A O;CF B 0 O"
            load() = 3; turnKind(1, 2) = 0; pieceCount(1) = 4; pieceLength(1, 1) = 370; pieceLength(1, 3) = 30
            """);
        // The first segment is 401 long, and the turn has four steps. With 383 knots the radius is 45 and the lead 25, twice of which
        // is 50; with 384 the radius is 46 and the lead would be 26.
        Script.run("but it is flown over if the segments are too short for it", """
            fixes 0,0 300,300
            "IF A;CF B 23"
            load() = 2; setCruise(300, 383) = 300; pieceCount(1) = 3; pieceLength(1, 0) = 376; pieceLength(1, 1) = 47
            pieceLength(1, 2) = 25; setCruise(300, 384) = 300; pieceLength(1, 0) = 401; pieceKind(1, 1) = 1; pieceLength(1, 1) = 48
            """);
    }

    private static void firstSegmentOfCourseToFix() {
        Script.run("the turn at the start of the first segment of a leg: not that within a CF leg", """
            fixes 0,0 300,300 -300,0
            "IF A;CF B 0"
            load() = 2; turnKind(1, 1) = 0; turnSteps(1, 1) = 0; turnRadius(1, 1) = 0; turnLead(1, 1) = 0
            "IF C;TF A;CF B 0"
            load() = 3; turnSteps(1, 2) = -3; turnKind(1, 2) = 1; turnLead(1, 2) = 20; turnRadius(1, 2) = 50
            """);
        Script.run("if the first segment is left out, it is that of the second one, and a mark before it counts", """
            fixes 0,0 300,0 300,50
            "IF A;TF B;CF C 0"
            load() = 3; setCruise(300, 200) = 300; turnSteps(1, 2) = -6; turnKind(1, 2) = 1; turnLead(1, 2) = 12; setFlyOver(1, true) = 0
            turnKind(1, 2) = 2; turnSteps(1, 2) = -6; turnRadius(1, 2) = 12; turnLead(1, 2) = 0
            """);
    }

    private static void legsWithoutSegments() {
        Script.run("Legs without segments leave them as they are", """
            fixes 0,0 0,300 300,300
            "IF A;TF B S 200 O;TF B S 500;DF B;TF C S 200"
            load() = 5; turnSteps(1, 4) = 6; turnRadius(1, 4) = 12; turnKind(1, 4) = 2; setFlyOver(1, false) = 1; turnKind(1, 4) = 1
            setFlyOver(2, true) = 0; setFlyOver(3, true) = 0; turnKind(1, 4) = 1; legLength(1, 1) = 288; turnKind(1, 2) = 0
            """);
    }

    private static void newStarts() {
        Script.run("except for a leg that starts anew, and is neither a PP leg nor an HF leg: then there is none", """
            fixes 0,0 0,300 300,300 300,0
            "IF A;TF B;IF B;TF C"
            load() = 4; turnKind(1, 3) = 0; legLength(1, 1) = 300
            "IF A;TF B;TF D;TF B;TF C"
            load() = 5; delete(2) = 4; hasGap(1, 2) = 1; turnKind(1, 2) = 0; turnKind(1, 3) = 0; legLength(1, 1) = 300; closeGap(2) = 0
            turnKind(1, 3) = 1; legLength(1, 1) = 250
            """);
        Script.run("a leg behind one without an end", """
            fixes 0,0 0,300 300,300
            "IF A;VM 0;TF B;TF C;CF A 12;VM 5;CF B 7;TF C"
            load() = 8; turnKind(1, 2) = 0; turnKind(1, 3) = 0; turnKind(1, 7) = 0
            """);
    }

    private static void afterPatterns() {
        Script.run("after the holding pattern of an HF leg the inbound course of the pattern, the length of its straight sides", """
            fixes 0,0 300,0
            "HF A 0 R 99 1;TF B"
            load() = 2; turnSteps(1, 1) = 6; turnKind(1, 1) = 2
            "HF A 0 R 100 1;TF B"
            load() = 2; turnSteps(1, 1) = 6; turnKind(1, 1) = 1; turnLead(1, 1) = 50
            "HF A 6 R 100 1;TF B"
            load() = 2; turnKind(1, 1) = 0
            "HF A 5 R 11 1;TF B"
            load() = 2; turnSteps(1, 1) = 1; turnKind(1, 1) = 2
            "HF A 5 R 12 1;TF B"
            load() = 2; turnKind(1, 1) = 1; turnLead(1, 1) = 6
            """);
        Script.run("and this leg: its mark and its speed limit", """
            fixes 0,0 300,0
            "HF A 0 R 100 1 O;TF B"
            load() = 2; turnKind(1, 1) = 2
            "HF A 0 R 100 1 S 200;TF B S 100"
            load() = 2; turnRadius(1, 1) = 12; turnKind(1, 1) = 1; setWind(0, 99) = 1; turnRadius(1, 1) = 27
            """);
        Script.run("also of an HF leg that starts anew behind a gap", """
            fixes 0,0 300,0 0,300
            "IF C;VM 5;HF A 0 R 100 1;TF B"
            load() = 4; hasGap(1, 2) = 1; turnSteps(1, 3) = 6; turnKind(1, 3) = 1
            """);
    }

    private static void afterPresentPosition() {
        // Two steps with the radius 3 have the lead 0, for which the inbound length 0 would be enough.
        Script.run("one after a PP leg always is", """
            fixes 0,0 0,500 300,1000
            "IF A;TF B;TF C"
            load() = 3; setCruise(300, 100) = 300; execute() = 3; turnKind(0, 2) = 1; turnSteps(0, 2) = 2; turnLead(0, 2) = 0
            fly(499) = 499; directTo(2) = 2; turnSteps(1, 1) = 2; turnKind(1, 1) = 2; turnLead(1, 1) = 0; setFlyOver(0, false) = 0
            turnKind(1, 1) = 2
            """);
        Script.run("after a PP leg its course, the length 0 and this leg", """
            fixes 0,0 0,500 300,200
            "IF A;TF B;TF C S 100"
            load() = 3; execute() = 3; fly(200) = 200; directTo(2) = 2; turnSteps(1, 1) = 6; turnRadius(1, 1) = 50
            setSpeedLimit(0, 100) = 999; turnRadius(1, 1) = 3; turnKind(1, 1) = 2; setSpeedLimit(0, 200) = 100; turnRadius(1, 1) = 12
            """);
        Script.run("no turn after a PP leg straight ahead", """
            fixes 0,0 0,500
            "IF A;TF B"
            load() = 2; execute() = 2; fly(200) = 200; directTo(1) = 2; turnKind(1, 1) = 0; turnSteps(1, 1) = 0; legLength(1, 1) = 300
            """);
        Script.run("also if a leg without segments lies between", """
            fixes 0,0 0,500 300,1000
            "IF A;TF B"
            load() = 2; setCruise(300, 100) = 300; execute() = 2; fly(500) = 500
            "TF B;TF C"
            load() = 2; directTo(0) = 3; legLength(1, 1) = 0; turnKind(1, 1) = 0; turnSteps(1, 2) = 2; turnRadius(1, 2) = 3
            turnKind(1, 2) = 2
            """);
    }
}
