/** Promises 29 to 38: the legs of a plan, with the segments and end points of each kind. */
public final class LegsTest {
    public static void main(String[] args) {
        noSuchPlanOrLeg();
        kindsAndFixes();
        startingAnew();
        courses();
        directions();
        courseToFix();
        courseToAltitude();
        interceptions();
        truncatedInterceptions();
        noInterception();
        lengthsAndTimes();
        Script.end();
    }

    private static void noSuchPlanOrLeg() {
        String[] calls = {"legKind", "legFix", "hasGap", "endX", "endY", "legCourse", "legLength", "legTime", "lengthTo", "turnKind",
            "turnSteps", "turnRadius", "turnLead", "holdEntry", "climbAltitude", "descentAltitude", "altitude", "violation"};
        for (String call : calls) {
            Script.run("no such plan or leg", """
                fixes 0,0 0,300
                CALL(0, 0) = BAD_INDEX; CALL(1, 0) = BAD_INDEX; CALL(2, 0) = BAD_INDEX; CALL(-1, 0) = BAD_INDEX
                "IF A;TF B"
                load() = 2; CALL(0, 0) = BAD_INDEX; CALL(1, 2) = BAD_INDEX; CALL(1, -1) = BAD_INDEX; CALL(1, 2147483647) = BAD_INDEX
                execute() = 2; CALL(1, 0) = BAD_INDEX; CALL(0, 2) = BAD_INDEX; CALL(0, -2147483648) = BAD_INDEX
                """.replace("CALL", call));
        }
        Script.run("promise 29", """
            fixes 0,0 0,300
            legCount(0) = 0; legCount(1) = BAD_INDEX; legCount(2) = BAD_INDEX; legCount(-1) = BAD_INDEX
            "IF A;TF B"
            load() = 2; legCount(0) = 0; legCount(1) = 2; execute() = 2; legCount(0) = 2; legCount(1) = BAD_INDEX
            """);
    }

    private static void kindsAndFixes() {
        Script.run("promises 30 and 31", """
            fixes 0,0 0,300
            "IF A;TF B;DF A;CF B 3;CA 3 50;CI 3;VM 3;HF B 3 L 10 1"
            load() = 8; legKind(1, 0) = 0; legKind(1, 1) = 1; legKind(1, 2) = 2; legKind(1, 3) = 3; legKind(1, 4) = 4
            legKind(1, 5) = 5; legKind(1, 6) = 6; legKind(1, 7) = 7; legFix(1, 0) = 0; legFix(1, 1) = 1; legFix(1, 2) = 0
            legFix(1, 3) = 1; legFix(1, 4) = NONE; legFix(1, 5) = NONE; legFix(1, 6) = NONE; legFix(1, 7) = 1; execute() = 8
            legKind(0, 7) = 7; legFix(0, 7) = 1; directTo(1) = 8; legKind(1, 0) = 8; legFix(1, 0) = NONE
            """);
    }

    private static void startingAnew() {
        Script.run("promises 32 to 34", """
            fixes 0,0 0,300 300,300
            "TF B;IF A;VM 3;CA 6 50;CF C 3;TF B;CI 3;HF A 3 L 10 1;DF C"
            load() = 9; hasGap(1, 0) = 0; hasGap(1, 1) = 1; hasGap(1, 2) = 0; hasGap(1, 3) = 1; hasGap(1, 4) = 1; hasGap(1, 5) = 0
            hasGap(1, 6) = 0; hasGap(1, 7) = 1; hasGap(1, 8) = 0; gapCount(1) = 4; endX(1, 0) = 0; endY(1, 0) = 300; endX(1, 2) = NONE
            endY(1, 2) = NONE; endX(1, 3) = NONE; endY(1, 3) = NONE; endX(1, 4) = 300; endY(1, 4) = 300; endX(1, 6) = NONE
            endY(1, 6) = NONE; endX(1, 7) = 0; endY(1, 7) = 0; endX(1, 8) = 300; legLength(1, 0) = 0; legLength(1, 2) = 100
            legLength(1, 3) = 0; legLength(1, 4) = 0; legCourse(1, 0) = NONE; legCourse(1, 3) = NONE; legCourse(1, 4) = NONE
            legCourse(1, 7) = 3
            """);
    }

    private static void courses() {
        // Each fix but the first one lies in the direction of its course from the first one.
        Script.run("promise 35", """
            fixes 0,0 0,1000 259,966 500,866 707,707 866,500 966,259 1000,0 0,-1000 -1000,0 -259,966 -966,-259
            "IF A;TF B;IF A;TF C;IF A;TF D;IF A;TF E;IF A;TF F;IF A;TF G"
            load() = 12; legCourse(1, 0) = NONE; legCourse(1, 1) = 0; legCourse(1, 3) = 1; legCourse(1, 5) = 2; legCourse(1, 7) = 3
            legCourse(1, 9) = 4; legCourse(1, 11) = 5
            "IF A;TF H;IF A;TF I;IF A;TF J;IF A;TF K;IF A;TF L"
            load() = 10; legCourse(1, 1) = 6; legCourse(1, 3) = 12; legCourse(1, 5) = 18; legCourse(1, 7) = 23; legCourse(1, 9) = 17
            """);
        // 34 * 259 + 259 * 966 = 259 * 1000: to (34, 259) the courses 0 and 1 have the same scalar product.
        Script.run("the lowest of several courses", """
            fixes 0,0 34,259 35,259 33,259 -34,259 -35,259
            "IF A;TF B;IF A;TF C;IF A;TF D;IF A;TF E;IF A;TF F"
            load() = 10; legCourse(1, 1) = 0; legCourse(1, 3) = 1; legCourse(1, 5) = 0; legCourse(1, 7) = 0; legCourse(1, 9) = 23
            """);
        Script.run("the lengths are rounded down", """
            fixes 0,0 3,4 3,3 1,1 9999,9999 9998,9998
            "IF A;TF B;IF A;TF C;IF A;TF D;IF A;TF E;IF E;TF F"
            load() = 10; legLength(1, 1) = 5; legLength(1, 3) = 4; legLength(1, 5) = 1; legLength(1, 7) = 14140; legCourse(1, 9) = 15
            legLength(1, 9) = 1
            """);
    }

    /** The direction of course c is (S(c), S(c + 6)); a CA leg of length 1000 ends just there. */
    private static void directions() {
        int[] sines = {0, 259, 500, 707, 866, 966, 1000, 966, 866, 707, 500, 259, 0, -259, -500, -707, -866, -966, -1000, -966, -866,
            -707, -500, -259};
        for (int c = 0; c < 24; c++) {
            int x = sines[c];
            int y = sines[(c + 6) % 24];
            Script.run("course " + c, """
                fixes 0,0 BEFORE
                "IF A;CA COURSE 300"
                load() = 2; legLength(1, 1) = 1000; endX(1, 1) = EX; endY(1, 1) = EY; legCourse(1, 1) = COURSE
                "IF B;CF A COURSE"
                load() = 2; legLength(1, 1) = 50; pieceCount(1) = 1; legCourse(1, 1) = COURSE
                """.replace("COURSE", "" + c).replace("EX", "" + x).replace("EY", "" + y)
                .replace("BEFORE", (-50 * x / 1000) + "," + (-50 * y / 1000)));
        }
    }

    private static void courseToFix() {
        Script.run("two segments of a CF leg", """
            fixes 0,0 300,0 300,300 300,250
            "IF A;CF B 6;IF A;CF C 0;IF D;CF C 0;IF A;CF C 0 O"
            load() = 8; legLength(1, 1) = 300; pieceLength(1, 0) = 250; pieceLength(1, 1) = 50; endX(1, 1) = 300; endY(1, 1) = 0
            legLength(1, 3) = 439; legCourse(1, 3) = 0; turnKind(1, 3) = 0; legLength(1, 5) = 50; turnKind(1, 5) = 0
            legLength(1, 7) = 439
            """);
        // The point before the fix on course 5 is (-48, -12) from it, truncated toward zero: 1372 from A, less the lead 13.
        Script.run("the point before the fix", """
            fixes 0,0 1000,1000
            "IF A;CF B 5"
            load() = 2; pieceCount(1) = 3; pieceLength(1, 0) = 1359; pieceX(1, 2) = 1000; pieceY(1, 2) = 1000; pieceLength(1, 2) = 37
            """);
    }

    private static void courseToAltitude() {
        Script.run("lengths of CA legs", """
            fixes 0,0 0,300
            "IF A;CA 6 50;CA 6 80;CA 6 80;CA 6 40;CA 6 43;CA 6 44"
            load() = 7; legLength(1, 1) = 166; endX(1, 1) = 166; legLength(1, 2) = 100; endX(1, 2) = 266; legLength(1, 3) = 10
            legLength(1, 4) = 10; legLength(1, 5) = 10; endX(1, 5) = 296; legLength(1, 6) = 10; endX(1, 6) = 306; endY(1, 6) = 0
            setEnds(20, 0) = 0; legLength(1, 1) = 100; legLength(1, 2) = 100; setEnds(47, 0) = 20; legLength(1, 1) = 10
            setEnds(450, 0) = 47; legLength(1, 1) = 10; setGradients(100, 318, 500) = 300; legLength(1, 2) = 300
            """);
        Script.run("a CA leg that starts anew counts for the next one", """
            fixes 0,0 0,300
            "CA 6 50;IF A;TF B;CA 1 80"
            load() = 4; legLength(1, 0) = 0; endX(1, 0) = NONE; endX(1, 3) = 25; endY(1, 3) = 396
            """);
    }

    private static void interceptions() {
        Script.run("a CI leg meets the course of the next leg", """
            fixes 0,0 999,100 500,0 500,1 1,900
            "IF A;CI 6;CF B 0;IF A;CI 6;CF C 0;IF A;CI 6;CF D 0"
            load() = 9; endX(1, 1) = 999; endY(1, 1) = 0; hasGap(1, 2) = 0; endY(1, 2) = 100; legLength(1, 1) = 949
            legLength(1, 2) = 128; turnSteps(1, 2) = -6; turnKind(1, 2) = 1; endX(1, 4) = 500; legLength(1, 4) = 500; hasGap(1, 5) = 0
            legLength(1, 5) = 0; endX(1, 7) = 500; turnKind(1, 8) = 2
            "IF A;CI 6;CF E 0;CI 3;CF B 21"
            load() = 5; endX(1, 1) = 1; endY(1, 1) = 0; legLength(1, 1) = 1; turnKind(1, 2) = 2; endX(1, 3) = NONE; hasGap(1, 4) = 1
            """);
        // u = (707, 707), v = (0, 1000), D = 707000, w = (100, 300): t = 141, and s is 200.
        Script.run("a slanted CI leg", """
            fixes 0,0 100,300
            "IF A;CI 3;CF B 0"
            load() = 3; endX(1, 1) = 99; endY(1, 1) = 99; legCourse(1, 2) = 0; turnSteps(1, 2) = -3; turnLead(1, 2) = 20
            legLength(1, 1) = 121; legLength(1, 2) = 220
            """);
        // P = (-300, 40), u = (500, 866), v = (966, -259), D = -966056, w = (400, 360): t = 467, s = 172. With C, s is -455; with C
        // and the opposite course 19, t = 279 and s = 455.
        Script.run("a CI leg from elsewhere", """
            fixes -300,40 100,400 -600,400
            "IF A;CI 2;CF B 7"
            load() = 3; endX(1, 1) = -67; endY(1, 1) = 444; hasGap(1, 2) = 0; turnSteps(1, 2) = 5
            "IF A;CI 2;CF C 7"
            load() = 3; endX(1, 1) = NONE; hasGap(1, 2) = 1
            "IF A;CI 2;CF C 19"
            load() = 3; endX(1, 1) = -161; endY(1, 1) = 281; hasGap(1, 2) = 0; turnSteps(1, 2) = -7
            """);
    }

    private static void truncatedInterceptions() {
        // u = (259, 966), v = (1000, 0), D = -966000, w = (1, 4): t = 4, and s = 70000 / -966000 is truncated to 0.
        Script.run("s just below 0 is 0", """
            fixes 0,0 1,4
            "IF A;CI 1;CF B 6"
            load() = 3; endX(1, 1) = 1; endY(1, 1) = 3; hasGap(1, 2) = 0
            """);
        // u = (966, 259), v = (0, 1000), D = 966000: t = 965000000 / 966000 = 998.
        Script.run("t is truncated", """
            fixes 0,0 965,900 965,259 965,257
            "IF A;CI 5;CF B 0"
            load() = 3; endX(1, 1) = 964; endY(1, 1) = 258; hasGap(1, 2) = 0
            "IF A;CI 5;CF C 0"
            load() = 3; endX(1, 1) = 964; hasGap(1, 2) = 0
            "IF A;CI 5;CF D 0"
            load() = 3; endX(1, 1) = NONE; hasGap(1, 2) = 1
            """);
    }

    private static void noInterception() {
        Script.run("no interception", """
            fixes 0,0 1000,100 0,100 500,-1 500,100
            "IF A;CI 6;CF B 0;IF A;CI 6;CF C 0;IF A;CI 6;CF D 0;IF A;CI 6;CF E 6"
            load() = 12; endX(1, 1) = NONE; endY(1, 1) = NONE; legLength(1, 1) = 100; hasGap(1, 2) = 1; pieceX(1, 0) = 100
            endX(1, 4) = NONE; endX(1, 7) = NONE; endX(1, 10) = NONE; legLength(1, 10) = 100
            "IF A;CI 6;CF E 18;IF A;CI 6;TF E;IF A;CI 6"
            load() = 8; endX(1, 1) = NONE; endX(1, 4) = NONE; hasGap(1, 5) = 1; endX(1, 7) = NONE; legLength(1, 7) = 100
            "IF A;CI 6;TF D;CF E 0"
            load() = 4; delete(2) = 3; legKind(1, 2) = 3; endX(1, 1) = NONE; legLength(1, 1) = 100; closeGap(2) = 0
            endX(1, 1) = 500; hasGap(1, 2) = 0; legLength(1, 1) = 450
            """);
        Script.run("VM has no end", """
            fixes 0,0 500,100
            "IF A;VM 0;CF B 6"
            load() = 3; legLength(1, 1) = 100; pieceX(1, 0) = 0; pieceY(1, 0) = 100; endX(1, 1) = NONE; hasGap(1, 2) = 1
            """);
    }

    private static void lengthsAndTimes() {
        // The arc of 78 and the straight piece of 150 are flown with 400: 70 + 135, each rounded down.
        Script.run("promises 36 to 38", """
            fixes 0,0 0,200 200,200
            "IF A;TF B;TF C"
            load() = 3; legLength(1, 0) = 0; legLength(1, 1) = 150; legLength(1, 2) = 228; legTime(1, 0) = 0; legTime(1, 1) = 135
            legTime(1, 2) = 205; lengthTo(1, 0) = 0; lengthTo(1, 1) = 150; lengthTo(1, 2) = 378; setCruise(300, 333) = 300
            legLength(1, 1) = 166; legLength(1, 2) = 219; legTime(1, 1) = 179; legTime(1, 2) = 236; lengthTo(1, 2) = 385
            """);
        Script.run("a leg 0 with a length", """
            fixes 0,0 0,300
            "HF A 0 R 50 1;TF B"
            load() = 2; lengthTo(1, 0) = 414; lengthTo(1, 1) = 714; totalLength(1) = 714; totalTime(1) = 642; topOfDescent(1) = 416
            altitude(1, 0) = 95; altitude(1, 1) = 0; violation(1, 0) = 0; setWindow(0, 0, 20) = 0; topOfDescent(1) = 652
            """);
        // A pattern is flown without wind: 414 * 360 / 400; the way to it with 460.
        Script.run("the time of a pattern", """
            fixes 0,0 300,0
            "IF A;HF B 6 R 50 1"
            load() = 2; setWind(60, 0) = 1; legLength(1, 1) = 714; legTime(1, 1) = 606; setSpeedLimit(1, 200) = 999
            legLength(1, 1) = 475; legTime(1, 1) = 730
            """);
    }
}
