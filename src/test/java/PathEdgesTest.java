/** The edges of where a leg starts anew, and of the segments of each kind of leg. Most titles quote the document. */
public final class PathEdgesTest {
    public static void main(String[] args) {
        legZeroStartsAnew();
        laterLegsStartAnew();
        gapMarks();
        segmentsToFixes();
        courseToFix();
        courseToAltitude();
        altitudeBefore();
        interceptedOrNot();
        truncatedInterceptions();
        nextLegOfInterception();
        courseWithoutEnd();
        segmentsWithoutLength();
        lengthsAndTimes();
        Script.end();
    }

    private static void legZeroStartsAnew() {
        for (String leg : new String[] {"IF A", "TF A", "DF A", "CF A 5", "HF A 5 L 10 1"}) {
            Script.run("A leg of kind IF, PP, TF, DF, CF or HF that starts anew has no segments; its end point is its fix: " + leg, """
                fixes 70,-80 0,0
                "LEG;TF B"
                load() = 2; hasGap(1, 0) = 0; endX(1, 0) = 70; endY(1, 0) = -80; hasGap(1, 1) = 0; turnKind(1, 0) = 0; gapCount(1) = 0
                endX(1, 1) = 0
                """.replace("LEG", leg));
        }
        for (String leg : new String[] {"CA 5 450", "CI 5", "VM 5"}) {
            Script.run("A leg of kind CA, CI or VM that starts anew has no segments and no end point: " + leg, """
                fixes 70,-80 0,0
                "LEG;CF B 0"
                load() = 2; hasGap(1, 0) = 0; endX(1, 0) = NONE; endY(1, 0) = NONE; legLength(1, 0) = 0; legTime(1, 0) = 0
                legCourse(1, 0) = NONE; turnKind(1, 0) = 0; pieceCount(1) = 0; hasGap(1, 1) = 1; gapCount(1) = 1; endX(1, 1) = 0
                """.replace("LEG", leg));
        }
    }

    private static void laterLegsStartAnew() {
        Script.run("or its kind is IF", """
            fixes 0,0 0,300
            "TF A;IF B;IF B;TF A"
            load() = 4; hasGap(1, 0) = 0; hasGap(1, 1) = 1; hasGap(1, 2) = 1; hasGap(1, 3) = 0; legLength(1, 1) = 0; legLength(1, 2) = 0
            legLength(1, 3) = 300; gapCount(1) = 2
            """);
        for (String leg : new String[] {"TF B", "DF B", "CF B 0", "HF B 0 L 10 1"}) {
            Script.run("or the leg before it has no end point: " + leg, """
                fixes 0,0 0,300
                "IF A;VM 5;LEG;LEG"
                load() = 4; hasGap(1, 1) = 0; hasGap(1, 2) = 1; hasGap(1, 3) = 0; endX(1, 2) = 0; endY(1, 2) = 300; turnKind(1, 2) = 0
                gapCount(1) = 1
                """.replace("LEG", leg));
        }
        Script.run("several legs without an end point, one after the other", """
            fixes 0,0 0,300
            "IF A;VM 5;CA 5 450;CI 5;VM 5;TF B;CA 5 450"
            load() = 7; hasGap(1, 2) = 1; hasGap(1, 3) = 1; hasGap(1, 4) = 1; hasGap(1, 5) = 1; hasGap(1, 6) = 0; endX(1, 2) = NONE
            legLength(1, 2) = 0; legLength(1, 3) = 0; legLength(1, 4) = 0; legLength(1, 5) = 0; legLength(1, 6) = 10; endX(1, 6) = 9
            gapCount(1) = 4
            """);
    }

    private static void gapMarks() {
        Script.run("or it has a gap mark", """
            fixes 0,0 0,300 0,600
            "IF A;TF B;TF C;CA 0 300"
            load() = 4; delete(1) = 3; hasGap(1, 1) = 1; legLength(1, 1) = 0; endY(1, 1) = 600; hasGap(1, 2) = 0; legLength(1, 2) = 1000
            delete(1) = 2; hasGap(1, 1) = 1; legLength(1, 1) = 0; endX(1, 1) = NONE; closeGap(1) = 0; legLength(1, 1) = 1000
            endY(1, 1) = 1000
            """);
        Script.run("There is a gap before a leg if it is not leg 0 and starts anew", """
            fixes 0,0 0,300 0,600
            "IF A;TF B;TF C"
            load() = 3; execute() = 3; fly(100) = 100; directTo(1) = 3; hasGap(1, 0) = 0; hasGap(1, 1) = 0; gapCount(1) = 0
            """);
    }

    private static void segmentsToFixes() {
        for (String leg : new String[] {"TF B", "DF B", "HF B 5 L 10 1"}) {
            Script.run("TF, DF, HF: a segment from P to the fix, which is the end point: " + leg, """
                fixes 10,20 -290,420
                "IF A;LEG"
                load() = 2; pieceLength(1, 0) = 500; pieceX(1, 0) = -290; pieceY(1, 0) = 420; pieceCourse(1, 0) = 22; endX(1, 1) = -290
                endY(1, 1) = 420
                """.replace("LEG", leg));
        }
    }

    private static void courseToFix() {
        // The leg before is a CI leg: at (500, 0), and the fix is 200 north of it.
        Script.run("CF: if the leg before is a CI leg, a segment from P to the fix, with the course of the CF leg", """
            fixes 0,0 500,200 499,200
            "IF A;CI 6 O;CF B 0"
            load() = 3; endX(1, 1) = 500; pieceCount(1) = 4; turnSteps(1, 2) = -6; pieceX(1, 3) = 500; pieceY(1, 3) = 200
            pieceCourse(1, 3) = 0
            """);
        // At course 0 B is at (500, 150): 158 from (450, 0), on course 1.
        Script.run("Otherwise a segment from P to B, and a segment from B to the fix with the length 50 and the course of the leg", """
            fixes 450,0 500,200
            "IF A;CF B 0"
            load() = 2; pieceCount(1) = 3; pieceLength(1, 0) = 152; pieceCourse(1, 0) = 1; pieceLength(1, 1) = 13; pieceLength(1, 2) = 44
            pieceCourse(1, 2) = 0; endX(1, 1) = 500; endY(1, 1) = 200
            """);
        // On course 2 B is 25 and 43 from the fix, which are 49 in length, but the segment is 50 long.
        Script.run("with the length 50, even if the points are nearer", """
            fixes 0,0 25,43
            "IF A;CF B 2"
            load() = 2; pieceCount(1) = 1; pieceLength(1, 0) = 50; pieceCourse(1, 0) = 2; legTime(1, 1) = 45
            """);
    }

    private static void courseToAltitude() {
        Script.run("L .. is (its altitude - b) * 1000 / (climb gradient), but at least 10", """
            fixes 0,0
            "IF A;CA 6 9"
            load() = 2; setGradients(900, 318, 500) = 300; legLength(1, 1) = 10; setGradients(899, 318, 500) = 900; legLength(1, 1) = 10
            setGradients(818, 318, 500) = 899; legLength(1, 1) = 11; setGradients(819, 318, 500) = 818; legLength(1, 1) = 10
            "IF A;CA 6 8"
            load() = 2; setGradients(900, 318, 500) = 819; legLength(1, 1) = 10; endX(1, 1) = 10
            "IF A;CA 6 10"
            load() = 2; legLength(1, 1) = 11; endX(1, 1) = 11
            "IF A;CA 6 0"
            load() = 2; legLength(1, 1) = 10; endX(1, 1) = 10; setEnds(450, 0) = 0; legLength(1, 1) = 10; endX(1, 1) = 10
            """);
        Script.run("the longest CA leg", """
            fixes 0,0
            "IF A;CA 18 450"
            load() = 2; setGradients(100, 318, 500) = 300; legLength(1, 1) = 4500; endX(1, 1) = -4500; endY(1, 1) = 0
            """);
    }

    private static void altitudeBefore() {
        Script.run("b is the altitude of the last CA leg before it in the plan, or the departure altitude if there is none", """
            fixes 0,0 0,300
            "IF A;CA 6 60;TF B;CA 6 90;CA 6 60;CA 6 120"
            load() = 6; endX(1, 1) = 200; endX(1, 3) = 100; endX(1, 4) = 110; endX(1, 5) = 310; setEnds(30, 0) = 0
            endX(1, 1) = 100; endX(1, 3) = 100; setEnds(60, 0) = 30; endX(1, 1) = 10; endX(1, 3) = 100
            """);
        Script.run("also one that starts anew, or lies before a gap", """
            fixes 0,0 0,300
            "CA 6 60;IF A;CA 6 90;IF B;CA 6 150"
            load() = 5; endX(1, 2) = 100; endX(1, 4) = 200
            """);
        Script.run("not a later one", """
            fixes 0,0 0,300
            "IF A;CA 6 60;IF B;CA 6 30"
            load() = 4; legLength(1, 1) = 200; legLength(1, 3) = 10
            """);
    }

    private static void crossing(int x, int y, boolean met) {
        Script.run("If t is 1 to 999 and s is at least 0, there is an interception: fix at " + x + ", " + y, """
            fixes 0,0 X,Y
            "IF A;CI 6;CF B 0"
            load() = 3; endX(1, 1) = END; endY(1, 1) = ENDY; hasGap(1, 2) = GAP; endX(1, 2) = X; endY(1, 2) = Y
            """.replace("X,Y", x + "," + y).replace("= X", "= " + x).replace("= Y", "= " + y).replace("ENDY", met ? "0" : "NONE")
            .replace("END", met ? "" + x : "NONE").replace("GAP", met ? "0" : "1"));
    }

    private static void interceptedOrNot() {
        crossing(-1, 500, false);
        crossing(0, 500, false);
        crossing(1, 500, true);
        crossing(2, 500, true);
        crossing(998, 500, true);
        crossing(999, 500, true);
        crossing(1000, 500, false);
        crossing(1001, 500, false);
        crossing(500, -1, false);
        crossing(500, 0, true);
        crossing(500, 1, true);
        crossing(500, -9999, false);
        crossing(500, 9999, true);
        crossing(9999, 9999, false);
        crossing(-9999, 9999, false);
        Script.run("If D is not 0: the same and the opposite course", """
            fixes 0,0 500,0 500,100
            "IF A;CI 6;CF B 6;IF A;CI 6;CF C 6;IF A;CI 6;CF B 18;IF A;CI 6;CF C 18"
            load() = 12; endX(1, 1) = NONE; hasGap(1, 2) = 1; endX(1, 4) = NONE; endX(1, 7) = NONE; endX(1, 10) = NONE; gapCount(1) = 7
            legLength(1, 1) = 100; legLength(1, 4) = 100; legLength(1, 7) = 100; legLength(1, 10) = 100
            """);
        // D is 259000 and -259000; t = 500 -+ 100 * 966 / 259 = 500 - 372 and 500 + 372.
        Script.run("one step beside the same course, to both sides", """
            fixes 0,0 500,100 500,-100
            "IF A;CI 6;CF B 5;IF A;CI 6;CF C 7;IF A;CI 6;CF C 17;IF A;CI 6;CF B 19"
            load() = 12; endX(1, 1) = 127; endY(1, 1) = 0; endX(1, 4) = 127; endX(1, 7) = 872; endX(1, 10) = 872; gapCount(1) = 3
            """);
        Script.run("Otherwise there is none: a segment .. to the point at length 100, which is its length, and no end point", """
            fixes 0,0 0,500
            "IF A;CI 1;CF B 0"
            load() = 3; legLength(1, 1) = 100; pieceX(1, 0) = 25; pieceY(1, 0) = 96; pieceCourse(1, 0) = 1; endX(1, 1) = NONE
            endY(1, 1) = NONE; hasGap(1, 2) = 1
            """);
    }

    private static void truncatedInterceptions() {
        // v is (259, 966): t = 1000 - 259 / 966, 1 - 259 / 966, 2 - 259 / 966.
        Script.run("t is truncated before it is compared", """
            fixes 0,0 1000,1 1,1 2,1 1000,0 1001,1
            "IF A;CI 6;CF B 1"
            load() = 3; endX(1, 1) = 999; hasGap(1, 2) = 0
            "IF A;CI 6;CF C 1"
            load() = 3; endX(1, 1) = NONE; hasGap(1, 2) = 1
            "IF A;CI 6;CF D 1"
            load() = 3; endX(1, 1) = 1; hasGap(1, 2) = 0
            "IF A;CI 6;CF E 1"
            load() = 3; endX(1, 1) = NONE; hasGap(1, 2) = 1
            "IF A;CI 6;CF F 1"
            load() = 3; endX(1, 1) = NONE; hasGap(1, 2) = 1
            """);
        // u is (259, 966), v is (1000, 0), D = -966000: s is -70 / 966 and -917 / 966 for the first two fixes, which are 0, and then
        // -1106 / 966 and 1204 / 966. With v = (866, 500) and the last fix it is -707000 / 707056.
        Script.run("s is truncated before it is compared", """
            fixes 0,0 1,4 2,11 1,8 5,14 36,137
            "IF A;CI 1;CF B 6"
            load() = 3; endX(1, 1) = 1; endY(1, 1) = 3; hasGap(1, 2) = 0
            "IF A;CI 1;CF C 6"
            load() = 3; endY(1, 1) = 10; hasGap(1, 2) = 0
            "IF A;CI 1;CF D 6"
            load() = 3; endX(1, 1) = NONE; hasGap(1, 2) = 1
            "IF A;CI 1;CF E 6"
            load() = 3; endY(1, 1) = 13; hasGap(1, 2) = 0
            "IF A;CI 1;CF F 4"
            load() = 3; endX(1, 1) = 36; endY(1, 1) = 137; hasGap(1, 2) = 0
            """);
    }

    private static void nextLegOfInterception() {
        Script.run("If there is a next leg, of kind CF, without a gap mark", """
            fixes 0,0 500,100 0,900
            "IF A;CI 6"
            load() = 2; endX(1, 1) = NONE; legLength(1, 1) = 100
            "IF A;CI 6;TF B"
            load() = 3; endX(1, 1) = NONE; hasGap(1, 2) = 1
            "IF A;CI 6;DF B"
            load() = 3; endX(1, 1) = NONE
            "IF A;CI 6;HF B 0 L 10 1"
            load() = 3; endX(1, 1) = NONE
            "IF A;CI 6;IF B"
            load() = 3; endX(1, 1) = NONE
            "IF A;CI 6;CI 0;CF B 0"
            load() = 4; endX(1, 1) = NONE; hasGap(1, 2) = 1; endX(1, 2) = NONE; hasGap(1, 3) = 1
            "IF A;CI 6;CF B 0"
            load() = 3; endX(1, 1) = 500; hasGap(1, 2) = 0
            """);
        Script.run("without a gap mark", """
            fixes 0,0 500,100 0,900
            "IF A;CI 6;TF C;CF B 0"
            load() = 4; delete(2) = 3; endX(1, 1) = NONE; hasGap(1, 2) = 1; legLength(1, 1) = 100; closeGap(2) = 0; endX(1, 1) = 500
            hasGap(1, 2) = 0
            """);
        Script.run("a next leg that was removed is none", """
            fixes 0,0 500,100
            "IF A;CI 6;CF B 0"
            load() = 3; endX(1, 1) = 500; delete(2) = 2; endX(1, 1) = NONE; legLength(1, 1) = 100; execute() = 2; endX(0, 1) = NONE
            "IF A;CI 6"
            load() = 2; endX(1, 1) = NONE
            """);
        Script.run("a next leg of 20", """
            fixes 0,0 500,100
            "IF A;TF A;TF A;TF A;TF A;TF A;TF A;TF A"
            load() = 8
            "TF A;TF A;TF A;TF A;TF A;TF A;TF A;TF A;TF A;TF A;CI 6"
            insert(8) = 19; endX(1, 18) = NONE
            "CF B 0"
            insert(19) = 20; endX(1, 18) = 500; endX(1, 19) = 500; endY(1, 19) = 100
            """);
    }

    private static void courseWithoutEnd() {
        Script.run("VM: a segment on the course of the leg to the point at length 100, which is its length, and no end point", """
            fixes 10,20
            "IF A;VM 23;CF A 0"
            load() = 3; legLength(1, 1) = 100; pieceX(1, 0) = -15; pieceY(1, 0) = 116; pieceCourse(1, 0) = 23; endX(1, 1) = NONE
            endY(1, 1) = NONE; hasGap(1, 2) = 1
            """);
    }

    private static void segmentsWithoutLength() {
        Script.run("Segments with the length 0 are left out", """
            fixes 5,5 5,5 5,6
            "IF A;TF B;DF B;TF C"
            load() = 4; pieceCount(1) = 1; pieceLeg(1, 0) = 3; legLength(1, 1) = 0; legTime(1, 1) = 0; legCourse(1, 1) = NONE
            turnKind(1, 1) = 0; endX(1, 1) = 5; legLength(1, 3) = 1; legCourse(1, 3) = 0
            """);
        Script.run("the first segment of a CF leg, and that of a CF leg behind a CI leg", """
            fixes 0,0 0,50 500,0
            "IF A;CF B 0"
            load() = 2; pieceCount(1) = 1; legLength(1, 1) = 50
            "IF A;CI 6;CF C 0"
            load() = 3; pieceCount(1) = 1; legLength(1, 1) = 500; legLength(1, 2) = 0; legCourse(1, 2) = NONE; endX(1, 2) = 500
            """);
        Script.run("that of an HF leg, whose pattern remains", """
            fixes 0,0
            "IF A;HF A 6 L 10 1"
            load() = 2; pieceCount(1) = 1; pieceKind(1, 0) = 2; turnKind(1, 1) = 0; hasGap(1, 1) = 0; holdEntry(1, 1) = 0
            """);
    }

    private static void lengthsAndTimes() {
        // With 220 knots the arc is 23 and the straight piece 285: 37 + 466 seconds; together it would be 504.
        Script.run("Its time is the sum of piece length * 360 / w over its pieces", """
            fixes 0,0 0,300 300,300
            "IF A;TF B;TF C"
            load() = 3; setCruise(300, 220) = 300; legLength(1, 2) = 308; legTime(1, 2) = 503; legLength(1, 1) = 285; legTime(1, 1) = 466
            totalTime(1) = 969; totalLength(1) = 593; lengthTo(1, 0) = 0; lengthTo(1, 1) = 285; lengthTo(1, 2) = 593
            """);
        // 714 - 414 = 300 with 400 + 60 knots, and the pattern with 400; with the limit 399 both are slower.
        Script.run("w is the ground speed of the leg on the course of the piece, or V for a pattern", """
            fixes 0,0 300,0
            "IF A;HF B 6 R 50 1"
            load() = 2; setWind(60, 0) = 1; legTime(1, 1) = 606; setWind(-60, 0) = 1; legTime(1, 1) = 689; setSpeedLimit(1, 100) = 999
            legLength(1, 1) = 418; legTime(1, 1) = 2584; setWind(-99, 0) = 1; legTime(1, 1) = 2584; setWind(0, 0) = 1
            legTime(1, 1) = 1504
            """);
    }
}
