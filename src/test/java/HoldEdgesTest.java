/** The edges of holding patterns, and of promises 43 and 44. Most titles quote the document. */
public final class HoldEdgesTest {
    public static void main(String[] args) {
        ranges();
        entries();
        entriesOfLegs();
        arrivalCourses();
        noArrivalCourse();
        otherKinds();
        lengthsOfEntries();
        lengthsOfCircuits();
        radii();
        piecesOfPatterns();
        Script.end();
    }

    private static void ranges() {
        Script.run("the arrival course, 0 to 23; the inbound course of the pattern, 0 to 23; BAD_VALUE if a course is out of range", """
            entryFor(-1, 0, true) = BAD_VALUE; entryFor(0, 0, true) = 0; entryFor(23, 0, true) = 0; entryFor(24, 0, true) = BAD_VALUE
            entryFor(0, -1, true) = BAD_VALUE; entryFor(0, 23, true) = 0; entryFor(0, 24, true) = BAD_VALUE
            entryFor(-1, 0, false) = BAD_VALUE; entryFor(24, 0, false) = BAD_VALUE; entryFor(0, -1, false) = BAD_VALUE
            entryFor(0, 24, false) = BAD_VALUE; entryFor(24, 24, true) = BAD_VALUE; entryFor(-1, -1, false) = BAD_VALUE
            entryFor(-2147483648, 0, true) = BAD_VALUE; entryFor(0, 2147483647, true) = BAD_VALUE; entryFor(23, 23, false) = 0
            """);
    }

    private static int entry(int r) {
        return r <= 7 || r >= 20 ? 0 : r <= 11 ? 1 : 2;
    }

    /** All pairs of courses: the differences wrap around at both ends. */
    private static void entries() {
        for (int arrival = 0; arrival < 24; arrival++) {
            StringBuilder script = new StringBuilder();
            for (int inbound = 0; inbound < 24; inbound++) {
                String call = "entryFor(" + arrival + ", " + inbound + ", ";
                script.append(call).append("true) = ").append(entry((arrival - inbound + 24) % 24)).append("; ");
                script.append(call).append("false) = ").append(entry((inbound - arrival + 24) % 24)).append('\n');
            }
            Script.run("r be a - c for a right pattern and c - a for a left one, modulo 24", script.toString());
        }
        Script.run("it is direct if r is 0 to 7 or 20 to 23, a teardrop if it is 8 to 11, and parallel if it is 12 to 19", """
            entryFor(0, 0, true) = 0; entryFor(7, 0, true) = 0; entryFor(8, 0, true) = 1; entryFor(11, 0, true) = 1
            entryFor(12, 0, true) = 2; entryFor(19, 0, true) = 2; entryFor(20, 0, true) = 0; entryFor(23, 0, true) = 0
            entryFor(0, 0, false) = 0; entryFor(0, 7, false) = 0; entryFor(0, 8, false) = 1; entryFor(0, 11, false) = 1
            entryFor(0, 12, false) = 2; entryFor(0, 19, false) = 2; entryFor(0, 20, false) = 0; entryFor(0, 23, false) = 0
            """);
        Script.run("modulo 24", """
            entryFor(1, 18, true) = 0; entryFor(1, 17, true) = 1; entryFor(1, 14, true) = 1; entryFor(1, 13, true) = 2
            entryFor(1, 6, true) = 2; entryFor(1, 5, true) = 0; entryFor(18, 1, false) = 0; entryFor(17, 1, false) = 1
            entryFor(14, 1, false) = 1; entryFor(13, 1, false) = 2; entryFor(6, 1, false) = 2; entryFor(5, 1, false) = 0
            """);
    }

    private static void entriesOfLegs() {
        // The arrival course is 22.
        for (int inbound = 0; inbound < 24; inbound++) {
            Script.run("Returns 0: direct; 1: teardrop; 2: parallel", """
                fixes 0,0 -500,866
                "IF A;HF B INBOUND R 10 1"
                load() = 2; holdEntry(1, 1) = RIGHT; pieceCount(1) = RPIECES
                "IF A;HF B INBOUND L 10 1"
                load() = 2; holdEntry(1, 1) = LEFT; pieceCount(1) = LPIECES
                """.replace("INBOUND", "" + inbound).replace("RIGHT", "" + entry((22 - inbound + 24) % 24))
                .replace("LEFT", "" + entry((inbound - 22 + 24) % 24))
                .replace("RPIECES", entry((22 - inbound + 24) % 24) == 0 ? "2" : "3")
                .replace("LPIECES", entry((inbound - 22 + 24) % 24) == 0 ? "2" : "3"));
        }
    }

    private static void arrivalCourses() {
        // The turn of twelve steps at B is flown over, and the way from its end to C is on course 13, not on 12.
        Script.run("The arrival course is the course of its segment", """
            fixes 0,0 0,200 0,-400
            "IF A;TF B;HF C 5 R 50 1"
            load() = 3; pieceCourse(1, 2) = 13; holdEntry(1, 2) = 0
            "IF A;TF B;HF C 4 R 50 1"
            load() = 3; holdEntry(1, 2) = 1
            "IF A;TF B;HF C 1 R 50 1"
            load() = 3; holdEntry(1, 2) = 1
            "IF A;TF B;HF C 0 R 50 1"
            load() = 3; holdEntry(1, 2) = 2
            """);
        Script.run("without a segment it is the inbound course as it was before", """
            fixes 0,0 0,300
            "IF A;TF B;HF B 12 R 50 1;HF B 4 R 50 1;HF B 16 L 50 1"
            load() = 5; holdEntry(1, 2) = 2; holdEntry(1, 3) = 1; holdEntry(1, 4) = 2
            "IF A;TF B;TF B;HF B 15 R 50 1"
            load() = 4; holdEntry(1, 3) = 1
            """);
        Script.run("the course of a PP leg", """
            fixes 0,0 300,0
            "IF A;TF B"
            load() = 2; execute() = 2; fly(300) = 300
            "HF B 18 R 50 1"
            load() = 1; holdEntry(1, 0) = 0; directTo(0) = 2; legKind(1, 1) = 7; holdEntry(1, 1) = 2
            """);
    }

    private static void noArrivalCourse() {
        Script.run("or none, if there is none or the leg starts anew; it is direct without an arrival course", """
            fixes 0,0 0,300
            "HF A 12 R 50 1"
            load() = 1; holdEntry(1, 0) = 0; pieceCount(1) = 1
            "IF A;HF A 12 R 50 1"
            load() = 2; holdEntry(1, 1) = 0
            "IF A;TF B;VM 0;HF B 12 R 50 1"
            load() = 4; hasGap(1, 3) = 1; holdEntry(1, 3) = 0
            "IF A;TF B;TF A;HF B 12 R 50 1"
            load() = 4; delete(2) = 3; hasGap(1, 2) = 1; holdEntry(1, 2) = 0; closeGap(2) = 0; holdEntry(1, 2) = 2
            """);
    }

    private static void otherKinds() {
        Script.run("NONE if the leg is not of kind HF", """
            fixes 0,0 0,300
            "IF A;TF B;DF A;CF B 5;CA 5 5;CI 5;VM 5"
            load() = 7; holdEntry(1, 0) = NONE; holdEntry(1, 1) = NONE; holdEntry(1, 2) = NONE; holdEntry(1, 3) = NONE
            holdEntry(1, 4) = NONE; holdEntry(1, 5) = NONE; holdEntry(1, 6) = NONE; holdEntry(1, 7) = BAD_INDEX; execute() = 7
            directTo(1) = 7; holdEntry(1, 0) = NONE
            """);
    }

    private static void lengthsOfEntries() {
        // R = 50: 50 * 14 * 262 / 1000 = 183, 50 * 18 * 262 / 1000 = 235. The straight sides are the shortest and the longest ones.
        Script.run("the entry, of length 0 if it is direct, l + R * 14 * 262 / 1000 for a teardrop, and l + R * 18 * 262 / 1000", """
            fixes 0,0 0,300
            "IF A;HF B 0 R 10 1"
            load() = 2; pieceCount(1) = 2; pieceLength(1, 1) = 334
            "IF A;HF B 16 R 10 1"
            load() = 2; pieceCount(1) = 3; pieceLength(1, 1) = 193; pieceLength(1, 2) = 334
            "IF A;HF B 12 R 10 1"
            load() = 2; pieceCount(1) = 3; pieceLength(1, 1) = 245; pieceLength(1, 2) = 334
            "IF A;HF B 16 R 200 1"
            load() = 2; pieceLength(1, 1) = 383; pieceLength(1, 2) = 714
            "IF A;HF B 12 R 200 1"
            load() = 2; pieceLength(1, 1) = 435; pieceLength(1, 2) = 714
            """);
    }

    private static void lengthsOfCircuits() {
        // R = 50: a circuit is 2 * l + 314; nine of them are 9 * 334, not 9 * 20 + 2829.
        Script.run("the circuits, of length n * (2 * l + R * 24 * 262 / 1000)", """
            fixes 0,0
            "HF A 0 R 10 1"
            load() = 1; legLength(1, 0) = 334; legTime(1, 0) = 300
            "HF A 0 R 10 9"
            load() = 1; legLength(1, 0) = 3006; legTime(1, 0) = 2705
            "HF A 0 L 200 1"
            load() = 1; legLength(1, 0) = 714
            "HF A 0 L 200 9"
            load() = 1; legLength(1, 0) = 6426; pieceCount(1) = 1
            """);
    }

    private static void radii() {
        // 100 knots: R = 3, 18 for a circuit; 500: R = 78, 490.
        Script.run("V be the lesser one of the cruise speed and the speed limit of the leg, and R = V * V / 3200, but at least 1", """
            fixes 0,0
            "HF A 0 R 10 1"
            load() = 1; setCruise(300, 100) = 300; legLength(1, 0) = 38; setWind(99, 99) = 1; legLength(1, 0) = 38; legTime(1, 0) = 136
            setWind(-99, -99) = 1; legLength(1, 0) = 38; legTime(1, 0) = 136; setCruise(300, 500) = 300; legLength(1, 0) = 510
            setSpeedLimit(0, 500) = 999; legLength(1, 0) = 510; setSpeedLimit(0, 100) = 500; legLength(1, 0) = 38
            setCruise(300, 400) = 300; setSpeedLimit(0, 401) = 100; legLength(1, 0) = 334; setSpeedLimit(0, 399) = 401
            legLength(1, 0) = 328; legTime(1, 0) = 295; setSpeedLimit(0, 999) = 399; setCruise(300, 456) = 300; legLength(1, 0) = 422
            """);
    }

    private static void piecesOfPatterns() {
        Script.run("The pieces are patterns on the course c, which end at the fix", """
            fixes 0,0 0,300
            "IF A;HF B 12 R 10 1;TF A"
            load() = 3; pieceKind(1, 1) = 2; pieceCourse(1, 1) = 12; pieceX(1, 1) = 0; pieceY(1, 1) = 300; pieceLeg(1, 1) = 1
            pieceKind(1, 2) = 2; pieceCourse(1, 2) = 12; pieceX(1, 2) = 0; pieceY(1, 2) = 300; pieceLeg(1, 2) = 1; legCourse(1, 1) = 12
            endX(1, 1) = 0; endY(1, 1) = 300; turnKind(1, 2) = 0; pieceKind(1, 3) = 0; pieceLeg(1, 3) = 2
            """);
        Script.run("An HF leg has its pattern after its segment (or at once, if it has none)", """
            fixes 0,0 0,300
            "IF A;HF B 0 R 10 1;HF B 0 L 20 1"
            load() = 3; pieceCount(1) = 3; pieceKind(1, 0) = 0; pieceKind(1, 1) = 2; pieceKind(1, 2) = 2; pieceLeg(1, 2) = 2
            pieceLength(1, 2) = 354
            """);
    }
}
