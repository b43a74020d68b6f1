/** Promises 45 to 51: the pieces of the path. */
public final class PiecesTest {
    public static void main(String[] args) {
        noSuchPiece();
        flownBy();
        flownOverBack();
        flownOverAside();
        flownOverDirect();
        shortSegments();
        courseToFix();
        patterns();
        fullPlan();
        Script.end();
    }

    private static void noSuchPiece() {
        for (String call : new String[] {"pieceLeg", "pieceKind", "pieceLength", "pieceCourse", "pieceX", "pieceY"}) {
            Script.run("no such piece", """
                fixes 0,0 0,300
                CALL(0, 0) = BAD_INDEX; CALL(1, 0) = BAD_INDEX; CALL(2, 0) = BAD_INDEX; CALL(-1, 0) = BAD_INDEX
                "IF A;TF B"
                load() = 2; CALL(0, 0) = BAD_INDEX; CALL(1, 1) = BAD_INDEX; CALL(1, -1) = BAD_INDEX; CALL(1, 2147483647) = BAD_INDEX
                execute() = 2; CALL(1, 0) = BAD_INDEX; CALL(0, 1) = BAD_INDEX
                """.replace("CALL", call));
        }
        Script.run("promise 45", """
            fixes 0,0 0,300
            pieceCount(0) = 0; pieceCount(1) = BAD_INDEX; pieceCount(2) = BAD_INDEX; pieceCount(-1) = BAD_INDEX
            "IF A;TF B;TF B"
            load() = 3; pieceCount(0) = 0; pieceCount(1) = 1; execute() = 3; pieceCount(0) = 1; pieceCount(1) = BAD_INDEX
            """);
    }

    private static void flownBy() {
        Script.run("promises 46 to 51", """
            fixes 0,0 0,200 200,200
            "IF A;TF B;TF C"
            load() = 3; pieceCount(1) = 3; pieceLeg(1, 0) = 1; pieceKind(1, 0) = 0; pieceLength(1, 0) = 150; pieceCourse(1, 0) = 0
            pieceX(1, 0) = 0; pieceY(1, 0) = 150; pieceLeg(1, 1) = 2; pieceKind(1, 1) = 1; pieceLength(1, 1) = 78
            pieceCourse(1, 1) = 6; pieceX(1, 1) = 50; pieceY(1, 1) = 200; pieceLeg(1, 2) = 2; pieceKind(1, 2) = 0
            pieceLength(1, 2) = 150; pieceCourse(1, 2) = 6; pieceX(1, 2) = 200; pieceY(1, 2) = 200
            """);
        // Both leads use up the segment between the turns, which leaves only its arc.
        Script.run("no straight piece between two turns", """
            fixes 0,0 0,300 100,300 100,0
            "IF A;TF B;TF C;TF D"
            load() = 4; pieceCount(1) = 4; pieceKind(1, 1) = 1; pieceKind(1, 2) = 1; pieceLeg(1, 2) = 3; pieceX(1, 1) = 50
            pieceX(1, 2) = 100; pieceY(1, 2) = 250; legLength(1, 2) = 78; pieceLength(1, 3) = 250
            """);
        Script.run("a turn whose arc has no length", """
            fixes 0,0 0,300 26,400
            "IF A;TF B;TF C"
            load() = 3; setCruise(300, 100) = 300; turnKind(1, 2) = 1; turnRadius(1, 2) = 3; pieceCount(1) = 2; pieceKind(1, 1) = 0
            pieceLength(1, 0) = 300; pieceLength(1, 1) = 103; pieceX(1, 1) = 26
            """);
    }

    private static void flownOverBack() {
        // The arc ends at (100, 200); the leg regains its segment at twice the distance of 100, at (0, 0).
        Script.run("a turn of twelve steps", """
            fixes 0,0 0,200 0,-400
            "IF A;TF B;TF C"
            load() = 3; pieceCount(1) = 4; pieceLength(1, 0) = 200; pieceKind(1, 1) = 1; pieceLength(1, 1) = 157; pieceX(1, 1) = 100
            pieceY(1, 1) = 200; pieceCourse(1, 1) = 12; pieceKind(1, 2) = 0; pieceLength(1, 2) = 223; pieceCourse(1, 2) = 14
            pieceX(1, 2) = 0; pieceY(1, 2) = 0; pieceLength(1, 3) = 400; pieceCourse(1, 3) = 12; pieceX(1, 3) = 0
            pieceY(1, 3) = -400; legLength(1, 2) = 780; legCourse(1, 2) = 12
            """);
        Script.run("the segment is too short to be regained before its end", """
            fixes 0,0 0,200 0,50
            "IF A;TF B;TF C"
            load() = 3; pieceCount(1) = 3; pieceLength(1, 2) = 180; pieceCourse(1, 2) = 14; pieceX(1, 2) = 0; pieceY(1, 2) = 50
            legCourse(1, 2) = 14
            """);
    }

    private static void flownOverAside() {
        // The arcs end 50 behind and 50 beside the fix on the new course, so it is regained at 50 + 2 * 50.
        Script.run("turns of six steps to both sides", """
            fixes 0,0 300,0 300,300 300,-300
            "IF A;TF B O;TF C;IF A;TF B O;TF D"
            load() = 6; pieceX(1, 1) = 350; pieceY(1, 1) = 50; pieceLength(1, 1) = 78; pieceX(1, 2) = 300; pieceY(1, 2) = 150
            pieceLength(1, 2) = 111; pieceCourse(1, 2) = 22; pieceLength(1, 3) = 150; pieceX(1, 5) = 350; pieceY(1, 5) = -50
            pieceX(1, 6) = 300; pieceY(1, 6) = -150; pieceLength(1, 6) = 111; pieceCourse(1, 6) = 14; pieceLength(1, 7) = 150
            """);
        // Three steps: the arc ends at (14, 35) from the fix, which is 34 along the new course and 14 beside it: 34 + 2 * 14 = 62.
        // One step: it ends at (1, 12), which is 11 along the new course and 2 beside it.
        Script.run("turns on slanted courses", """
            fixes 0,0 0,300
            "IF A;TF B O;CA 3 300"
            load() = 3; pieceX(1, 1) = 14; pieceY(1, 1) = 335; pieceLength(1, 1) = 39; pieceX(1, 2) = 43; pieceY(1, 2) = 343
            pieceLength(1, 2) = 30; pieceCourse(1, 2) = 5; pieceLength(1, 3) = 938; pieceCourse(1, 3) = 3; pieceY(1, 3) = 1007
            "IF A;TF B O;CA 21 300"
            load() = 3; pieceX(1, 1) = -14; pieceY(1, 1) = 335; pieceX(1, 2) = -43; pieceY(1, 2) = 343; pieceCourse(1, 2) = 19
            "IF A;TF B O;CA 1 300"
            load() = 3; pieceX(1, 1) = 1; pieceY(1, 1) = 312; pieceLength(1, 1) = 13; pieceX(1, 2) = 3; pieceY(1, 2) = 314
            pieceLength(1, 2) = 2; pieceLength(1, 3) = 985; legCourse(1, 2) = 1
            """);
        // The radius is 1: neither the arc nor the way back to the segment has a length.
        Script.run("a turn flown over with the least radius", """
            fixes 0,0 0,300
            "IF A;TF B O;CA 1 300"
            load() = 3; setCruise(300, 100) = 300; setWind(0, -99) = 1; turnKind(1, 2) = 2; turnRadius(1, 2) = 1; turnSteps(1, 2) = 1
            pieceCount(1) = 2; pieceLength(1, 1) = 1000; pieceX(1, 1) = 259; pieceY(1, 1) = 1266
            """);
        // The next turn's lead 50 shortens the last piece, and bounds the length at which the segment is regained.
        Script.run("with a turn behind", """
            fixes 0,0 300,0 300,300 600,300 300,120 600,120
            "IF A;TF B O;TF C;TF D;IF A;TF B O;TF E;TF F"
            load() = 8; pieceLength(1, 3) = 100; pieceX(1, 3) = 300; pieceY(1, 3) = 250; pieceX(1, 8) = 300; pieceY(1, 8) = 70
            pieceLength(1, 8) = 53; pieceKind(1, 9) = 1; pieceLeg(1, 9) = 7
            """);
    }

    private static void flownOverDirect() {
        Script.run("DF goes straight from the arc to the fix", """
            fixes 0,0 0,200 0,-400
            "IF A;TF B;DF C;IF A;TF B;HF C 12 R 50 1"
            load() = 6; pieceCount(1) = 7; pieceX(1, 1) = 100; pieceLength(1, 2) = 608; pieceCourse(1, 2) = 13; pieceX(1, 2) = 0
            pieceY(1, 2) = -400; legLength(1, 2) = 765; legCourse(1, 2) = 13; pieceLength(1, 5) = 608; pieceKind(1, 6) = 2
            holdEntry(1, 5) = 0
            """);
        // From (350, 50) to (300, 300) it is 254, less the lead 50: at 50 / 254 of the way back from the fix.
        Script.run("with a turn behind", """
            fixes 0,0 300,0 300,300 600,300
            "IF A;TF B O;DF C;TF D"
            load() = 4; pieceLength(1, 2) = 204; pieceCourse(1, 2) = 23; pieceX(1, 2) = 309; pieceY(1, 2) = 251; turnSteps(1, 3) = 6
            """);
        // The arc ends at (14, 35), 10 from the fix, which is less than the lead of the next turn.
        Script.run("the lead of the next turn leaves no straight piece", """
            fixes 0,-300 0,0 23,29 506,158
            "IF A;TF B O;DF C;TF D"
            load() = 4; turnKind(1, 2) = 2; turnSteps(1, 2) = 3; turnKind(1, 3) = 1; turnSteps(1, 3) = 2; turnLead(1, 3) = 13
            pieceCount(1) = 4; legLength(1, 2) = 39; pieceX(1, 1) = 14; pieceY(1, 1) = 35; pieceLeg(1, 2) = 3; pieceLength(1, 2) = 26
            pieceX(1, 2) = 35; pieceY(1, 2) = 32; pieceLength(1, 3) = 486
            """);
    }

    private static void shortSegments() {
        Script.run("segments without a length are left out", """
            fixes 0,0 0,0 0,300 300,300
            "IF A;TF B;DF C;DF C;TF D"
            load() = 5; pieceCount(1) = 3; pieceLeg(1, 0) = 2; legLength(1, 1) = 0; legLength(1, 3) = 0; legCourse(1, 3) = NONE
            endY(1, 3) = 300; pieceLength(1, 0) = 250; turnKind(1, 4) = 1; turnKind(1, 3) = 0
            """);
    }

    private static void courseToFix() {
        Script.run("the two segments of a CF leg with a turn between", """
            fixes 0,0 300,300
            "IF A;CF B 0"
            load() = 2; pieceCount(1) = 3; pieceLength(1, 0) = 370; pieceCourse(1, 0) = 3; pieceX(1, 0) = 285; pieceY(1, 0) = 238
            pieceKind(1, 1) = 1; pieceLength(1, 1) = 39; pieceCourse(1, 1) = 0; pieceX(1, 1) = 300; pieceY(1, 1) = 270
            pieceLength(1, 2) = 30; pieceX(1, 2) = 300; pieceY(1, 2) = 300; pieceLeg(1, 2) = 1
            """);
    }

    /**
     * Each CF leg flies 50 beyond its fix and turns back, with the radius 3; the next one turns back again at its start. Both turns
     * have an arc of 9 and 13 to the segment, 12 behind its start: 9 + 13 + 638 + 9 + 13 + 38 = 720, and 710 after a leg that starts anew.
     */
    private static void fullPlan() {
        Script.run("20 legs with nearly six pieces each", """
            fixes 0,0 0,600 0,1200 0,1800 0,2400 0,3000 0,3600 0,4200 0,4800 0,5400 0,6000 0,6600 0,7200 0,7800 0,8400 0,9000
            "IF A;CF B 12;CF C 12;CF D 12;CF E 12;CF F 12;CF G 12;CF H 12;CF I 12;CF J 12"
            load() = 10
            "CF K 12;CF L 12;CF M 12;CF N 12;CF O 12;CF P 12;IF A;CF B 12;CF C 12;CF D 12"
            insert(10) = 20; setCruise(300, 100) = 300; pieceCount(1) = 104; legLength(1, 1) = 710; legLength(1, 2) = 720
            legLength(1, 15) = 720; legLength(1, 16) = 0; legLength(1, 17) = 710; legLength(1, 19) = 720; totalLength(1) = 12940
            turnKind(1, 15) = 2; turnSteps(1, 19) = 12; pieceLeg(1, 87) = 15; pieceLeg(1, 88) = 17; pieceLeg(1, 103) = 19
            pieceX(1, 98) = -6; pieceY(1, 98) = 1200; pieceX(1, 101) = 6; pieceY(1, 101) = 1850; pieceX(1, 102) = 0
            pieceY(1, 102) = 1838; pieceLength(1, 102) = 13; pieceLength(1, 103) = 38; pieceY(1, 103) = 1800; execute() = 20
            fly(2000) = 2000; fly(2000) = 2000; fly(2000) = 2000; fly(2000) = 2000; fly(2000) = 2000; fly(2000) = 790
            currentLeg() = 15; positionY() = 9000; resume() = 16; fly(2000) = 2000; fly(2000) = 150; currentLeg() = 19
            """);
    }

    private static void patterns() {
        // R = 50: a circuit is 2 * 40 + 314, a teardrop 40 + 183, a parallel entry 40 + 235.
        Script.run("entries and circuits", """
            fixes 0,0 0,300
            "IF A;HF B 0 R 40 2;IF A;HF B 15 R 40 1;IF A;HF B 12 R 40 9"
            load() = 6; pieceCount(1) = 8; pieceLength(1, 0) = 300; pieceKind(1, 1) = 2; pieceLength(1, 1) = 788
            pieceCourse(1, 1) = 0; pieceX(1, 1) = 0; pieceY(1, 1) = 300; pieceLeg(1, 1) = 1; pieceLength(1, 3) = 223
            pieceKind(1, 3) = 2; pieceCourse(1, 3) = 15; pieceLength(1, 4) = 394; pieceLength(1, 6) = 275; pieceLength(1, 7) = 3546
            pieceY(1, 6) = 300; setSpeedLimit(3, 200) = 999; pieceLength(1, 3) = 84; pieceLength(1, 4) = 155
            setWind(99, 99) = 1; pieceLength(1, 4) = 155
            """);
        // The segment before the pattern is not shortened, whatever follows the pattern.
        Script.run("a pattern lies between two segments", """
            fixes 0,0 0,300 300,300
            "IF A;HF B 0 R 100 1;TF C"
            load() = 3; pieceLength(1, 0) = 300; pieceLength(1, 1) = 514; pieceKind(1, 2) = 1; turnKind(1, 2) = 1; pieceX(1, 2) = 50
            pieceLength(1, 3) = 250
            "IF A;TF B;HF B 0 R 100 1;TF C"
            load() = 4; pieceLength(1, 0) = 300; legLength(1, 2) = 514
            """);
    }
}
