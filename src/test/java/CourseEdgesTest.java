/** The edges of the terms on divisions, products, courses, points and distances. Most titles quote the document. */
public final class CourseEdgesTest {
    private static final int[] S = {0, 259, 500, 707, 866, 966, 1000, 966, 866, 707, 500, 259, 0, -259, -500, -707, -866, -966, -1000,
        -966, -866, -707, -500, -259};

    public static void main(String[] args) {
        truncation();
        longWays();
        farInterceptions();
        directions();
        oppositeCourses();
        differencesOfCourses();
        arcsOnAllCourses();
        distances();
        severalCourses();
        Script.end();
    }

    static int s(int course) {
        return S[Math.floorMod(course, 24)];
    }

    private static void truncation() {
        // 10 * -259 / 1000 is -2, and 10 * -966 / 1000 is -9.
        Script.run("All divisions are integer divisions that truncate toward zero, as in Java: points", """
            fixes 5,5 -5,-5
            "IF A;CA 13 1;IF B;CA 1 1"
            load() = 4; legLength(1, 1) = 10; endX(1, 1) = 3; endY(1, 1) = -4; endX(1, 3) = -3; endY(1, 3) = 4
            """);
        // (-60 * 259 - 60 * 966) / 1000 = -73500 / 1000 = -73, so the ground speed is 400 - 73 = 327: 1000 * 360 / 327 = 1100.
        Script.run("All divisions are integer divisions that truncate toward zero, as in Java: wind", """
            fixes 0,0
            "IF A;CA 1 300"
            load() = 2; setWind(-60, -60) = 1; legTime(1, 1) = 1100; setWind(60, 60) = 1; legTime(1, 1) = 761
            """);
        // 7 of 223 flown, from (0, 0) to (-200, -100): 7 * -200 / 223 = -6, 7 * -100 / 223 = -3.
        Script.run("All divisions are integer divisions that truncate toward zero, as in Java: the present position", """
            fixes 0,0 -200,-100
            "IF A;TF B"
            load() = 2; legLength(1, 1) = 223; execute() = 2; fly(7) = 7; positionX() = -6; positionY() = -3
            """);
    }

    /** A way of 49599, whose square and whose products with lengths on it are above the range of int. */
    private static void longWays() {
        String there = "CA 6 450;CA 6 0;CA 6 450;CA 6 0;CA 6 450;CA 6 0;CA 6 450;CA 6 0;CA 6 450;CA 6 0;";
        // PP at 12550, six CA legs of 4500 and five of 10 to 39600; back on course 18 with an arc of 157 to (39600, -100), 223 to
        // (39400, 0), and 49399 to the fix; 1000 before it the x is -8999.
        Script.run("products are computed without overflow: distances and positions", """
            fixes -9999,0
            "IF A;THERETF A"
            setGradients(100, 318, 500) = 300; load() = 12; execute() = 12; FLYfly(549) = 549; currentLeg() = 10; flownLength() = 9
            positionX() = 12550; directTo(11) = 2
            "THERECA 6 450;TF A"
            insert(1) = 13; endX(1, 11) = 39600; legLength(1, 12) = 49779; legCourse(1, 12) = 18; turnSteps(1, 12) = 12
            pieceLength(1, 12) = 223; pieceX(1, 12) = 39400; pieceLength(1, 13) = 49399; execute() = 13
            FLYFLYFLYfly(2000) = 2000; fly(2000) = 2000; fly(2000) = 2000; fly(2000) = 2000; fly(1829) = 1829; currentLeg() = 12
            flownLength() = 48779; positionX() = -8999; positionY() = 0; presentCourse() = 18
            """.replace("THERE", there).replace("FLY", "fly(2000) = 2000; ".repeat(11)));
    }

    private static void farInterceptions() {
        // s = 3000 * 1000 * 1000 / 1000000, which would be negative as an int; t = 4500, which as an int would be 205.
        Script.run("products are computed without overflow: interceptions", """
            fixes 0,0 500,3000 4500,100
            "IF A;CI 6;CF B 0;IF A;CI 6;CF C 0"
            load() = 6; endX(1, 1) = 500; hasGap(1, 2) = 0; endX(1, 4) = NONE; hasGap(1, 5) = 1
            """);
    }

    private static void directions() {
        for (int c = 0; c < 24; c++) {
            Script.run("The direction of course c is the vector (S(c), S(c + 6)), c = " + c, """
                fixes 20,-30
                "IF A;CA COURSE 45"
                load() = 2; legLength(1, 1) = 150; endX(1, 1) = EX; endY(1, 1) = EY; legCourse(1, 1) = COURSE
                """.replace("COURSE", "" + c).replace("EX", "" + (20 + 150 * s(c) / 1000))
                .replace("EY", "" + (-30 + 150 * s(c + 6) / 1000)));
        }
    }

    private static void oppositeCourses() {
        // From B itself the first segment has no length, and from a point beside B it ends there.
        for (int c = 0; c < 24; c++) {
            int x = 7 + 50 * s(c + 12) / 1000;
            int y = 8 + 50 * s(c + 18) / 1000;
            Script.run("B is the point at length 50 from the fix on the opposite course, c = " + c, """
                fixes 7,8 BX,BY RX,BY BX,TY
                "IF B;CF A COURSE"
                load() = 2; setCruise(300, 100) = 300; pieceCount(1) = 1; legLength(1, 1) = 50; pieceCourse(1, 0) = COURSE
                "IF C;CF A COURSE"
                load() = 2; pieceLength(1, 0) = 1; pieceX(1, 0) = BX; pieceY(1, 0) = BY; endX(1, 1) = 7; endY(1, 1) = 8
                "IF D;CF A COURSE"
                load() = 2; pieceLength(1, 0) = 1; pieceX(1, 0) = BX; pieceY(1, 0) = BY; endX(1, 1) = 7; endY(1, 1) = 8
                """.replace("COURSE", "" + c).replace("BX", "" + x).replace("BY", "" + y).replace("RX", "" + (x + 1))
                .replace("TY", "" + (y + 1)));
        }
    }

    private static void differencesOfCourses() {
        for (int a = 0; a < 24; a++) {
            StringBuilder script = new StringBuilder("fixes 0,0\n");
            for (int b = 0; b < 24; b++) {
                int n = (b - a + 24) % 24;
                script.append("\"IF A;CA ").append(a).append(" 60;CA ").append(b).append(" 120\"\nload() = 3; turnSteps(1, 2) = ")
                    .append(n <= 12 ? n : n - 24).append("\n");
                if (b % 12 == 11) {
                    Script.run("Sums and differences of courses are taken modulo 24: b - a", script.toString());
                    script = new StringBuilder("fixes 0,0\n");
                }
            }
        }
    }

    /** Turns that are flown over, between all courses, with three radii: where the arc ends, and where the segment is regained. */
    private static void arcsOnAllCourses() {
        for (int speed : new int[] {300, 400, 500}) {
            for (int a = 0; a < 24; a++) {
                for (int b = 0; b < 24; b++) {
                    if (a != b) {
                        flownOver(speed, a, b);
                    }
                }
            }
        }
    }

    private static void flownOver(int speed, int a, int b) {
        int n = (b - a + 24) % 24;
        int side = n <= 12 ? 6 : -6;
        int radius = speed * speed / 3200;
        int x = radius * (s(a + side) - s(b + side)) / 1000;
        int y = radius * (s(a + side + 6) - s(b + side + 6)) / 1000;
        int p = (x * s(b) + y * s(b + 6)) / 1000;
        int q = Math.abs((x * s(b + 6) - y * s(b)) / 1000);
        int j = Math.max(0, p + 2 * q);
        int endX = 1000 * s(b) / 1000;
        int endY = 1000 * s(b + 6) / 1000;
        int backX = endX * j / 1000;
        int backY = endY * j / 1000;
        int way = (int) Math.sqrt((double) ((backX - x) * (backX - x) + (backY - y) * (backY - y)));
        int kX = 200 * s(a) / 1000;
        int kY = 200 * s(a + 6) / 1000;
        Script.run("U and W are the directions of a + 6 and b + 6 for a turn to the right, and of a - 6 and b - 6", """
            fixes 0,0
            "IF A;CA INBOUND 60 O;CA OUTBOUND 360"
            setCruise(300, SPEED) = 300; load() = 3; turnRadius(1, 2) = RADIUS; pieceKind(1, 1) = 1; pieceLength(1, 1) = ARC
            pieceX(1, 1) = EX; pieceY(1, 1) = EY; pieceCourse(1, 1) = OUTBOUND; pieceX(1, HPIECE) = HX; pieceY(1, HPIECE) = HY
            pieceLength(1, 2) = WAY; pieceKind(1, 2) = 0; pieceLength(1, LAST) = REST; legCourse(1, 2) = OUTBOUND
            """.replace("HPIECE", way > 0 ? "2" : "1").replace("LAST", way > 0 ? "3" : "2").replace("INBOUND", "" + a).replace("OUTBOUND", "" + b).replace("SPEED", "" + speed).replace("RADIUS", "" + radius)
            .replace("EX", "" + (kX + x)).replace("EY", "" + (kY + y)).replace("HX", "" + (kX + backX)).replace("HY", "" + (kY + backY))
            .replace("ARC", "" + radius * Math.min(n, 24 - n) * 262 / 1000).replace("WAY", "" + (way > 0 ? way : 1000 - j)).replace("REST", "" + (1000 - j)));
    }

    private static void distances() {
        // The squares are 80 and 81, 98 and 100, 399960001 and 799960002; 19998 * 19998 * 2 = 799840008 has the root 28281.4.
        Script.run("The distance of two points is the square root of the sum of the squares, rounded down", """
            fixes 0,0 8,4 0,9 -7,-7 -6,8 1,0 0,-1
            "IF A;TF B;IF A;TF C;IF A;TF D;IF A;TF E;IF A;TF F;IF A;TF G"
            load() = 12; legLength(1, 1) = 8; legLength(1, 3) = 9; legLength(1, 5) = 9; legLength(1, 7) = 10; legLength(1, 9) = 1
            legLength(1, 11) = 1
            """);
        Script.run("The distance of the farthest fixes", """
            fixes -9999,-9999 9999,9999 9999,-9999 -9999,9998
            "IF A;TF B;IF C;TF A;IF C;TF D"
            load() = 6; legLength(1, 1) = 28281; legLength(1, 3) = 19998; legLength(1, 5) = 28280; legCourse(1, 1) = 3
            legCourse(1, 3) = 18; legCourse(1, 5) = 21
            """);
    }

    private static void severalCourses() {
        // Both courses beside these vectors have the scalar product 259 * 1000 with them.
        Script.run("of several the lowest c", """
            fixes 0,0 34,259 259,34 259,-34 34,-259 -34,-259 -259,-34 -259,34 -34,259
            "IF A;TF B;IF A;TF C;IF A;TF D;IF A;TF E"
            load() = 8; legCourse(1, 1) = 0; legCourse(1, 3) = 5; legCourse(1, 5) = 6; legCourse(1, 7) = 11
            "IF A;TF F;IF A;TF G;IF A;TF H;IF A;TF I"
            load() = 8; legCourse(1, 1) = 12; legCourse(1, 3) = 17; legCourse(1, 5) = 18; legCourse(1, 7) = 0
            """);
        Script.run("the greatest scalar product, on both sides of where two are the same", """
            fixes 0,0 340,2591 341,2590 2591,340 2590,341 -340,2591 -341,2590 -2591,-340 -2590,-341
            "IF A;TF B;IF A;TF C;IF A;TF D;IF A;TF E"
            load() = 8; legCourse(1, 1) = 0; legCourse(1, 3) = 1; legCourse(1, 5) = 6; legCourse(1, 7) = 5
            "IF A;TF F;IF A;TF G;IF A;TF H;IF A;TF I"
            load() = 8; legCourse(1, 1) = 0; legCourse(1, 3) = 23; legCourse(1, 5) = 18; legCourse(1, 7) = 17
            """);
    }
}
