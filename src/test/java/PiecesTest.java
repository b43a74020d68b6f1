/** Promises 45 to 51: the pieces of the path. */
public final class PiecesTest {
    public static void main(String[] args) {
        noSuchPiece();
        flownBy();
        flownOverBack();
        flownOverAside();
        flownOverDirect();
        shortSegments();
        courseToFix();
        patterns();
        Script.end();
    }

    private static void noSuchPiece() {
        for (String call : new String[] {"pieceLeg", "pieceKind", "pieceLength", "pieceCourse", "pieceX", "pieceY"}) {
            Script.run("no such piece", """
                fixes 0,0 0,300
                CALL(0, 0) = BAD_INDEX; CALL(1, 0) = BAD_INDEX; CALL(2, 0) = BAD_INDEX; CALL(-1, 0) = BAD_INDEX
                "IF A;TF B"
                load() = 2; CALL(0, 0) = BAD_INDEX; CALL(1, 1) = BAD_INDEX; CALL(1, -1) = BAD_INDEX; CALL(1, 2147483647) = BAD_INDEX
                execute() = 2; CALL(1, 0) = BAD_INDEX; CALL(0, 1) = BAD_INDEX
                """.replace("CALL", call));
        }
        Script.run("promise 45", """
            fixes 0,0 0,300
            pieceCount(0) = 0; pieceCount(1) = BAD_INDEX; pieceCount(2) = BAD_INDEX; pieceCount(-1) = BAD_INDEX
            "IF A;TF B;TF B"
            load() = 3; pieceCount(0) = 0; pieceCount(1) = 1; execute() = 3; pieceCount(0) = 1; pieceCount(1) = BAD_INDEX
            """);
    }

    private static void flownBy() {
        Script.run("promises 46 to 51", """
            fixes 0,0 0,200 200,200
            "IF A;TF B;TF C"
            load() = 3; pieceCount(1) = 3; pieceLeg(1, 0) = 1; pieceKind(1, 0) = 0; pieceLength(1, 0) = 150; pieceCourse(1, 0) = 0
            pieceX(1, 0) = 0; pieceY(1, 0) = 150; pieceLeg(1, 1) = 2; pieceKind(1, 1) = 1; pieceLength(1, 1) = 78
            pieceCourse(1, 1) = 6; pieceX(1, 1) = 50; pieceY(1, 1) = 200; pieceLeg(1, 2) = 2; pieceKind(1, 2) = 0
            pieceLength(1, 2) = 150; pieceCourse(1, 2) = 6; pieceX(1, 2) = 200; pieceY(1, 2) = 200
            """);
        // Both leads use up the segment between the turns, which leaves only its arc.
        Script.run("no straight piece between two turns", """
            fixes 0,0 0,300 100,300 100,0
            "IF A;TF B;TF C;TF D"
            load() = 4; pieceCount(1) = 4; pieceKind(1, 1) = 1; pieceKind(1, 2) = 1; pieceLeg(1, 2) = 3; pieceX(1, 1) = 50
            pieceX(1, 2) = 100; pieceY(1, 2) = 250; legLength(1, 2) = 78; pieceLength(1, 3) = 250
            """);
        Script.run("a turn whose arc has no length", """
            fixes 0,0 0,300 26,400
            "IF A;TF B;TF C"
            load() = 3; setCruise(300, 100) = 300; turnKind(1, 2) = 1; turnRadius(1, 2) = 3; pieceCount(1) = 2; pieceKind(1, 1) = 0
            pieceLength(1, 0) = 300; pieceLength(1, 1) = 103; pieceX(1, 1) = 26
            """);
    }

    private static void flownOverBack() {
        // The arc ends at (100, 200); the leg regains its segment at twice the distance of 100, at (0, 0).
        Script.run("a turn of twelve steps", """
            fixes 0,0 0,200 0,-400
            "IF A;TF B;TF C"
            load() = 3; pieceCount(1) = 4; pieceLength(1, 0) = 200; pieceKind(1, 1) = 1; pieceLength(1, 1) = 157; pieceX(1, 1) = 100
            pieceY(1, 1) = 200; pieceCourse(1, 1) = 12; pieceKind(1, 2) = 0; pieceLength(1, 2) = 223; pieceCourse(1, 2) = 14
            pieceX(1, 2) = 0; pieceY(1, 2) = 0; pieceLength(1, 3) = 400; pieceCourse(1, 3) = 12; pieceX(1, 3) = 0
            pieceY(1, 3) = -400; legLength(1, 2) = 780; legCourse(1, 2) = 12
            """);
        Script.run("the segment is too short to be regained before its end", """
            fixes 0,0 0,200 0,50
            "IF A;TF B;TF C"
            load() = 3; pieceCount(1) = 3; pieceLength(1, 2) = 180; pieceCourse(1, 2) = 14; pieceX(1, 2) = 0; pieceY(1, 2) = 50
            legCourse(1, 2) = 14
            """);
    }

    private static void flownOverAside() {
        // The arcs end 50 behind and 50 beside the fix on the new course, so it is regained at 50 + 2 * 50.
        Script.run("turns of six steps to both sides", """
            fixes 0,0 300,0 300,300 300,-300
            "IF A;TF B O;TF C;IF A;TF B O;TF D"
            load() = 6; pieceX(1, 1) = 350; pieceY(1, 1) = 50; pieceLength(1, 1) = 78; pieceX(1, 2) = 300; pieceY(1, 2) = 150
            pieceLength(1, 2) = 111; pieceCourse(1, 2) = 22; pieceLength(1, 3) = 150; pieceX(1, 5) = 350; pieceY(1, 5) = -50
            pieceX(1, 6) = 300; pieceY(1, 6) = -150; pieceLength(1, 6) = 111; pieceCourse(1, 6) = 14; pieceLength(1, 7) = 150
            """);
        // The next turn's lead 50 shortens the last piece, and bounds the length at which the segment is regained.
        Script.run("with a turn behind", """
            fixes 0,0 300,0 300,300 600,300 300,120 600,120
            "IF A;TF B O;TF C;TF D;IF A;TF B O;TF E;TF F"
            load() = 8; pieceLength(1, 3) = 100; pieceX(1, 3) = 300; pieceY(1, 3) = 250; pieceX(1, 8) = 300; pieceY(1, 8) = 70
            pieceLength(1, 8) = 53; pieceKind(1, 9) = 1; pieceLeg(1, 9) = 7
            """);
    }

    private static void flownOverDirect() {
        Script.run("DF goes straight from the arc to the fix", """
            fixes 0,0 0,200 0,-400
            "IF A;TF B;DF C;IF A;TF B;HF C 12 R 50 1"
            load() = 6; pieceCount(1) = 7; pieceX(1, 1) = 100; pieceLength(1, 2) = 608; pieceCourse(1, 2) = 13; pieceX(1, 2) = 0
            pieceY(1, 2) = -400; legLength(1, 2) = 765; legCourse(1, 2) = 13; pieceLength(1, 5) = 608; pieceKind(1, 6) = 2
            holdEntry(1, 5) = 0
            """);
        // From (350, 50) to (300, 300) it is 254, less the lead 50: at 50 / 254 of the way back from the fix.
        Script.run("with a turn behind", """
            fixes 0,0 300,0 300,300 600,300
            "IF A;TF B O;DF C;TF D"
            load() = 4; pieceLength(1, 2) = 204; pieceCourse(1, 2) = 23; pieceX(1, 2) = 309; pieceY(1, 2) = 251; turnSteps(1, 3) = 6
            """);
        // The arc ends at (14, 35), 10 from the fix, which is less than the lead of the next turn.
        Script.run("the lead of the next turn leaves no straight piece", """
            fixes 0,-300 0,0 23,29 506,158
            "IF A;TF B O;DF C;TF D"
            load() = 4; turnKind(1, 2) = 2; turnSteps(1, 2) = 3; turnKind(1, 3) = 1; turnSteps(1, 3) = 2; turnLead(1, 3) = 13
            pieceCount(1) = 4; legLength(1, 2) = 39; pieceX(1, 1) = 14; pieceY(1, 1) = 35; pieceLeg(1, 2) = 3; pieceLength(1, 2) = 26
            pieceX(1, 2) = 35; pieceY(1, 2) = 32; pieceLength(1, 3) = 486
            """);
    }

    private static void shortSegments() {
        Script.run("segments without a length are left out", """
            fixes 0,0 0,0 0,300 300,300
            "IF A;TF B;DF C;DF C;TF D"
            load() = 5; pieceCount(1) = 3; pieceLeg(1, 0) = 2; legLength(1, 1) = 0; legLength(1, 3) = 0; legCourse(1, 3) = NONE
            endY(1, 3) = 300; pieceLength(1, 0) = 250; turnKind(1, 4) = 1; turnKind(1, 3) = 0
            """);
    }

    private static void courseToFix() {
        Script.run("the two segments of a CF leg with a turn between", """
            fixes 0,0 300,300
            "IF A;CF B 0"
            load() = 2; pieceCount(1) = 3; pieceLength(1, 0) = 370; pieceCourse(1, 0) = 3; pieceX(1, 0) = 285; pieceY(1, 0) = 238
            pieceKind(1, 1) = 1; pieceLength(1, 1) = 39; pieceCourse(1, 1) = 0; pieceX(1, 1) = 300; pieceY(1, 1) = 270
            pieceLength(1, 2) = 30; pieceX(1, 2) = 300; pieceY(1, 2) = 300; pieceLeg(1, 2) = 1
            """);
    }

    private static void patterns() {
        // R = 50: a circuit is 2 * 40 + 314, a teardrop 40 + 183, a parallel entry 40 + 235.
        Script.run("entries and circuits", """
            fixes 0,0 0,300
            "IF A;HF B 0 R 40 2;IF A;HF B 15 R 40 1;IF A;HF B 12 R 40 9"
            load() = 6; pieceCount(1) = 8; pieceLength(1, 0) = 300; pieceKind(1, 1) = 2; pieceLength(1, 1) = 788
            pieceCourse(1, 1) = 0; pieceX(1, 1) = 0; pieceY(1, 1) = 300; pieceLeg(1, 1) = 1; pieceLength(1, 3) = 223
            pieceKind(1, 3) = 2; pieceCourse(1, 3) = 15; pieceLength(1, 4) = 394; pieceLength(1, 6) = 275; pieceLength(1, 7) = 3546
            pieceY(1, 6) = 300; setSpeedLimit(3, 200) = 999; pieceLength(1, 3) = 84; pieceLength(1, 4) = 155
            setWind(99, 99) = 1; pieceLength(1, 4) = 155
            """);
        // The segment before the pattern is not shortened, whatever follows the pattern.
        Script.run("a pattern lies between two segments", """
            fixes 0,0 0,300 300,300
            "IF A;HF B 0 R 100 1;TF C"
            load() = 3; pieceLength(1, 0) = 300; pieceLength(1, 1) = 514; pieceKind(1, 2) = 1; turnKind(1, 2) = 1; pieceX(1, 2) = 50
            pieceLength(1, 3) = 250
            "IF A;TF B;HF B 0 R 100 1;TF C"
            load() = 4; pieceLength(1, 0) = 300; legLength(1, 2) = 514
            """);
    }
}
