/** The edges of pieces: which are not made, where they end, and what shortens them. Most titles quote the document. */
public final class PieceEdgesTest {
    public static void main(String[] args) {
        noPieces();
        shortArcs();
        leadsUseUpSegments();
        directBehindAnArc();
        directToTheEndOfTheArc();
        regainedSegments();
        arcsTooShortToRegain();
        leadOfTheNextSegment();
        nothingBetween();
        truncatedPoints();
        firstPoints();
        mostPieces();
        pathsBuiltOverAndOver();
        Script.end();
    }

    private static void noPieces() {
        Script.run("Returns the number of pieces", """
            fixes 0,0 5,5
            pieceCount(0) = 0; pieceCount(1) = BAD_INDEX
            "IF A"
            load() = 1; pieceCount(1) = 0
            "VM 5;CA 5 5;CI 5;IF A;IF B"
            load() = 5; pieceCount(1) = 0; totalLength(1) = 0; legCourse(1, 4) = NONE
            "IF A;TF A"
            load() = 2; pieceCount(1) = 0
            "IF A;TF B"
            load() = 2; pieceCount(1) = 1
            """);
    }

    private static void shortArcs() {
        // The ground speed is 50 on these courses, and the radius 1: three steps have an arc of 786 / 1000, four of 1048 / 1000.
        Script.run("Pieces whose length would be 0 or less are not made: the arc of a turn that is flown by", """
            fixes 0,0
            "IF A;CA 5 30 S 100;CA 8 60 S 100"
            load() = 3; setWind(-99, 0) = 1; turnKind(1, 2) = 1; turnRadius(1, 2) = 1; turnSteps(1, 2) = 3; turnLead(1, 2) = 0
            pieceCount(1) = 2; pieceKind(1, 1) = 0; pieceLength(1, 1) = 100
            "IF A;CA 4 30 S 100;CA 8 60 S 100"
            load() = 3; turnKind(1, 2) = 1; turnSteps(1, 2) = 4; turnLead(1, 2) = 0; pieceCount(1) = 3; pieceKind(1, 1) = 1
            pieceLength(1, 1) = 1; pieceLength(1, 2) = 100
            """);
        // E is K for three steps, and K + (1, 0) for four, which is too near for j: the way back to K has the length 1.
        Script.run("the arc of a turn that is flown over", """
            fixes 0,0
            "IF A;CA 5 30 S 100 O;CA 8 60 S 100"
            load() = 3; setWind(-99, 0) = 1; turnKind(1, 2) = 2; turnRadius(1, 2) = 1; pieceCount(1) = 2; pieceLength(1, 1) = 100
            "IF A;CA 4 30 S 100 O;CA 8 60 S 100"
            load() = 3; turnKind(1, 2) = 2; pieceCount(1) = 4; pieceKind(1, 1) = 1; pieceLength(1, 1) = 1; pieceLength(1, 2) = 1
            pieceCourse(1, 2) = 18; pieceLength(1, 3) = 100
            """);
    }

    private static void leadsUseUpSegments() {
        // Both turns have the lead 50: between them 100 leave nothing, and 101 leave 1.
        Script.run("Pieces whose length would be 0 or less are not made: a straight piece of length Q - m - e", """
            fixes 0,0 0,300 100,300 100,0 101,300 101,0
            "IF A;TF B;TF C;TF D"
            load() = 4; pieceCount(1) = 4; pieceKind(1, 1) = 1; pieceX(1, 1) = 50; pieceY(1, 1) = 300; pieceKind(1, 2) = 1
            pieceX(1, 2) = 100; pieceY(1, 2) = 250; legLength(1, 2) = 78
            "IF A;TF B;TF E;TF F"
            load() = 4; pieceCount(1) = 5; pieceKind(1, 2) = 0; pieceLength(1, 2) = 1; pieceX(1, 2) = 51; pieceY(1, 2) = 300
            legLength(1, 2) = 79
            """);
    }

    /**
     * At K = (0, 0) the turn of four steps to the left is flown over, with an arc of 52 to (-25, 43). The fixes are 29, 28 and 27 from
     * there; the next turn, to course 0, has the lead 28.
     */
    private static void directBehindAnArc() {
        String start = "fixes 0,-300 0,0 -54,36 -53,36 -52,36\n";
        Script.run("a straight piece of length z - e on the course from E to N, to X(E, N, e, z)", start + """
            "IF A;TF B O;DF C;CA 0 450"
            load() = 4; turnSteps(1, 2) = -4; turnKind(1, 2) = 2; turnSteps(1, 3) = 4; turnKind(1, 3) = 1; turnLead(1, 3) = 28
            pieceCount(1) = 5; pieceLength(1, 1) = 52; pieceX(1, 1) = -25; pieceY(1, 1) = 43; pieceKind(1, 2) = 0; pieceLength(1, 2) = 1
            pieceX(1, 2) = -26; pieceY(1, 2) = 42; pieceCourse(1, 2) = 17; legLength(1, 2) = 53; pieceX(1, 3) = -54; pieceY(1, 3) = 64
            """);
        Script.run("a straight piece of length z - e, which is 0", start + """
            "IF A;TF B O;DF D;CA 0 450"
            load() = 4; turnKind(1, 3) = 1; turnLead(1, 3) = 28; pieceCount(1) = 4; legLength(1, 2) = 52; legCourse(1, 2) = 20
            pieceLeg(1, 2) = 3; pieceX(1, 2) = -53; pieceY(1, 2) = 64
            """);
        Script.run("a straight piece of length z - e, which is less than 0", start + """
            "IF A;TF B O;DF E;CA 0 450"
            load() = 4; turnKind(1, 3) = 1; turnLead(1, 3) = 28; pieceCount(1) = 4; legLength(1, 2) = 52; pieceLeg(1, 2) = 3
            legLength(1, 3) = 1524
            """);
        // p is 43 and q is 24, so j is 91, but at most 64 - 28 = 36: K + (-54, 36) * 36 / 64.
        Script.run("if the leg is of kind DF or HF: other kinds regain their segment", start + """
            "IF A;TF B O;TF C;CA 0 450"
            load() = 4; pieceCount(1) = 5; pieceX(1, 1) = -25; pieceY(1, 1) = 43; pieceX(1, 2) = -30; pieceY(1, 2) = 20
            pieceLength(1, 2) = 23; legLength(1, 2) = 75
            "IF A;TF B O;HF C 0 L 10 1"
            load() = 3; pieceCount(1) = 4; pieceLength(1, 2) = 29; pieceX(1, 2) = -54; pieceY(1, 2) = 36; pieceKind(1, 3) = 2
            """);
    }

    /** With 310 knots the radius is 30, and the turn of one step at (0, 0) ends at (1, 7), just where the fix is. */
    private static void directToTheEndOfTheArc() {
        Script.run("X(A, B, e, l) be .. B if l is 0", """
            fixes 0,-300 0,0 1,7 1,307
            "IF A;TF B O;DF C"
            load() = 3; setCruise(300, 310) = 300; turnKind(1, 2) = 2; turnSteps(1, 2) = 1; turnRadius(1, 2) = 30; pieceCount(1) = 2
            pieceKind(1, 1) = 1; pieceLength(1, 1) = 7; pieceX(1, 1) = 1; pieceY(1, 1) = 7; legLength(1, 2) = 7; endX(1, 2) = 1
            "IF A;TF B O;DF C;TF D"
            load() = 4; turnKind(1, 3) = 1; turnSteps(1, 3) = -1; turnLead(1, 3) = 3; pieceCount(1) = 4; legLength(1, 2) = 7
            pieceKind(1, 2) = 1; pieceX(1, 2) = 1; pieceY(1, 2) = 10; pieceLength(1, 3) = 297
            "IF A;TF B O;HF C 1 L 10 1"
            load() = 3; pieceCount(1) = 3; pieceKind(1, 1) = 1; pieceKind(1, 2) = 2; pieceX(1, 2) = 1; pieceY(1, 2) = 7
            """);
    }

    private static void regainedSegments() {
        // The arc of six steps ends 50 ahead and 50 aside: j = 50 + 2 * 50 = 150.
        Script.run("j = p + 2 * q, but .. at most Q - e", """
            fixes 0,0 0,300 149,300 150,300 151,300
            "IF A;TF B O;TF C"
            load() = 3; pieceCount(1) = 3; pieceX(1, 1) = 50; pieceY(1, 1) = 350; pieceX(1, 2) = 149; pieceY(1, 2) = 300
            pieceLength(1, 2) = 110
            "IF A;TF B O;TF D"
            load() = 3; pieceCount(1) = 3; pieceX(1, 2) = 150; pieceY(1, 2) = 300; pieceLength(1, 2) = 111; legCourse(1, 2) = 8
            "IF A;TF B O;TF E"
            load() = 3; pieceCount(1) = 4; pieceX(1, 2) = 150; pieceLength(1, 2) = 111; pieceLength(1, 3) = 1; pieceX(1, 3) = 151
            legCourse(1, 2) = 6
            """);
        // The next turn, of six steps, has the lead 50: with 200 nothing is left behind j, with 201 it is 1, with 199 j is 149.
        Script.run("at most Q - e: with a turn behind", """
            fixes 0,0 0,300 199,300 200,300 201,300
            "IF A;TF B O;TF C;CA 0 300"
            load() = 4; turnLead(1, 3) = 50; pieceX(1, 2) = 149; pieceLength(1, 2) = 110; pieceKind(1, 3) = 1; pieceLeg(1, 3) = 3
            "IF A;TF B O;TF D;CA 0 300"
            load() = 4; pieceX(1, 2) = 150; pieceLength(1, 2) = 111; pieceKind(1, 3) = 1; pieceLeg(1, 3) = 3
            "IF A;TF B O;TF E;CA 0 300"
            load() = 4; pieceX(1, 2) = 150; pieceLength(1, 2) = 111; pieceKind(1, 3) = 0; pieceLength(1, 3) = 1; pieceX(1, 3) = 151
            pieceLeg(1, 3) = 2; pieceLeg(1, 4) = 3
            """);
    }

    private static void arcsTooShortToRegain() {
        // R = 4: E is 1 ahead, p and q are 0, so j is 0, and H is K: a piece of length 1 back to it.
        Script.run("a straight piece to H, whose length is the distance of E and H, on the course from E to H", """
            fixes 0,0 0,300
            "IF A;TF B O;CA 1 300"
            load() = 3; setCruise(300, 114) = 300; turnRadius(1, 2) = 4; pieceCount(1) = 4; pieceLength(1, 1) = 1; pieceX(1, 1) = 0
            pieceY(1, 1) = 301; pieceLength(1, 2) = 1; pieceX(1, 2) = 0; pieceY(1, 2) = 300; pieceCourse(1, 2) = 12
            pieceLength(1, 3) = 1000
            """);
        // The segments are 1 long, and j is 1: the way from the end of the arc, (6, 1), is to the end of the segment.
        Script.run("at most Q - e, on a segment of length 1", """
            fixes 0,0 0,1
            "IF A;TF B;TF A"
            load() = 3; setCruise(300, 100) = 300; pieceCount(1) = 3; pieceX(1, 1) = 6; pieceY(1, 1) = 1; pieceX(1, 2) = 0
            pieceY(1, 2) = 0; pieceLength(1, 2) = 6; pieceCourse(1, 2) = 17
            """);
        // R = 3: E is K itself, so there is neither an arc nor a way to H.
        Script.run("E and H are the same point", """
            fixes 0,0 0,300
            "IF A;TF B O;CA 1 300"
            load() = 3; setCruise(300, 100) = 300; turnRadius(1, 2) = 3; turnKind(1, 2) = 2; pieceCount(1) = 2; pieceLength(1, 1) = 1000
            """);
    }

    private static void leadOfTheNextSegment() {
        Script.run("e the lead of the turn at the start of the next segment, if there is one", """
            fixes 0,0 0,300 300,300
            "IF A;TF B"
            load() = 2; pieceLength(1, 0) = 300; pieceY(1, 0) = 300
            "IF A;TF B;TF C"
            load() = 3; pieceLength(1, 0) = 250; pieceY(1, 0) = 250
            "IF A;TF B O;TF C"
            load() = 3; pieceLength(1, 0) = 300
            "IF A;TF B;TF B;TF C"
            load() = 4; pieceLength(1, 0) = 250; pieceLeg(1, 1) = 3
            """);
        // The turn within the CF leg shortens its first segment, and that behind it its second one.
        Script.run("the next segment of the same leg", """
            fixes 0,0 300,300
            "IF A;CF B 0;VM 2"
            load() = 3; pieceCount(1) = 5; pieceLength(1, 0) = 370; pieceLength(1, 2) = 17; turnLead(1, 2) = 13; pieceLeg(1, 2) = 1
            """);
    }

    private static void nothingBetween() {
        Script.run("and neither a holding pattern .. lies between; otherwise e is 0", """
            fixes 0,0 0,300 300,300
            "IF A;HF B 0 R 100 1;TF C"
            load() = 3; turnLead(1, 2) = 50; pieceLength(1, 0) = 300; pieceY(1, 0) = 300; pieceLength(1, 3) = 250
            "IF A;TF B;HF B 0 R 100 1;TF C"
            load() = 4; turnLead(1, 3) = 50; pieceLength(1, 0) = 300
            """);
        Script.run("nor a leg that starts anew", """
            fixes 0,0 0,300 300,300
            "IF A;TF B;HF B 0 R 100 1;TF C"
            load() = 4; delete(1) = 3; hasGap(1, 1) = 1; turnLead(1, 2) = 50
            "IF A;TF B;IF B;TF C"
            load() = 4; pieceLength(1, 0) = 300; turnKind(1, 3) = 0; pieceLength(1, 1) = 300
            """);
    }

    private static void truncatedPoints() {
        // From (0, 0) to (-217, -217) it is 306; the lead of the turn of three steps is 20: -217 + 217 * 20 / 306 = -217 + 14. From
        // there on course 12, to (-217, -517), at 20 of 300 behind it.
        Script.run("X(A, B, e, l) be the point B + (A - B) * e / l, for each coordinate", """
            fixes 0,0 -217,-217 -217,-517
            "IF A;TF B;TF C"
            load() = 3; legCourse(1, 1) = 15; turnSteps(1, 2) = -3; turnLead(1, 2) = 20; pieceX(1, 0) = -203; pieceY(1, 0) = -203
            pieceLength(1, 0) = 286; pieceX(1, 1) = -217; pieceY(1, 1) = -237; pieceX(1, 2) = -217; pieceY(1, 2) = -517
            """);
        // R * (U - W) / 1000 for the courses 15 and 12 to the left: 50 * (-1000 + 707 .. , 0 - 707) / 1000, each truncated toward zero.
        Script.run("E = K + R * (U - W) / 1000 (for each coordinate)", """
            fixes 0,0 -217,-217 -217,-517
            "IF A;TF B O;TF C"
            load() = 3; pieceX(1, 1) = -231; pieceY(1, 1) = -252; pieceKind(1, 1) = 1; pieceLength(1, 1) = 39
            """);
    }

    private static void firstPoints() {
        // Behind a straight piece that is not made the next piece begins where the arc ended, (-25, 43): half of 52 to (-53, 64).
        Script.run("Its first point is the last point of the piece before it", """
            fixes 0,-300 0,0 -53,36
            "IF A;TF B O;DF C;CA 0 450"
            load() = 4; execute() = 4; fly(352) = 352; currentLeg() = 3; positionX() = -25; positionY() = 43; fly(26) = 26
            positionX() = -39; positionY() = 53
            """);
        Script.run("but after a leg that starts anew and has an end point, it is this end point", """
            fixes 0,0 0,300 700,700 700,800
            "IF A;TF B;IF C;TF D"
            load() = 4; execute() = 4; fly(300) = 300; resume() = 2; fly(10) = 10; positionX() = 700; positionY() = 710
            """);
        Script.run("for a leg with a gap mark, too", """
            fixes 0,0 0,300 700,700 700,800 1,1
            "IF A;TF B;TF E;TF C;TF D"
            load() = 5; delete(2) = 4; execute() = 4; fly(300) = 300; resume() = 2; fly(10) = 10; positionX() = 700; positionY() = 710
            """);
    }

    private static void mostPieces() {
        Script.run("an HF leg with an arc, a straight piece, an entry and circuits", """
            fixes 0,0 0,300 300,300
            "IF A;TF B;HF C 18 R 100 1;TF A"
            load() = 4; pieceCount(1) = 7; pieceLeg(1, 1) = 2; pieceLeg(1, 4) = 2; pieceKind(1, 1) = 1; pieceKind(1, 2) = 0
            pieceKind(1, 3) = 2; pieceKind(1, 4) = 2; pieceLeg(1, 5) = 3; pieceKind(1, 5) = 1; pieceLeg(1, 6) = 3
            pieceLeg(1, 7) = BAD_INDEX
            """);
        Script.run("a CF leg with two turns that are flown over: six pieces", """
            fixes 0,0 0,600 0,1200
            "IF A;CF B 12;CF C 12"
            load() = 3; setCruise(300, 100) = 300; pieceCount(1) = 10; pieceLeg(1, 3) = 1; pieceLeg(1, 4) = 2; pieceLeg(1, 9) = 2
            pieceKind(1, 4) = 1; pieceKind(1, 5) = 0; pieceKind(1, 6) = 0; pieceKind(1, 7) = 1; pieceKind(1, 8) = 0; pieceKind(1, 9) = 0
            """);
        // A pattern, 15 legs to the north with six pieces each, one that turns only once, with four, and three back with six each.
        Script.run("the most pieces of 20 legs", """
            fixes 0,0 0,600 0,1200 0,1800 0,2400 0,3000 0,3600 0,4200 0,4800 0,5400 0,6000 0,6600 0,7200 0,7800 0,8400 0,9000
            "HF A 12 R 10 1;CF B 12;CF C 12;CF D 12;CF E 12;CF F 12;CF G 12;CF H 12;CF I 12;CF J 12"
            load() = 10
            "CF K 12;CF L 12;CF M 12;CF N 12;CF O 12;CF P 12;CF O 0;CF N 0;CF M 0;CF L 0"
            insert(10) = 20; setCruise(300, 100) = 300; pieceCount(1) = 113; pieceLeg(1, 0) = 0; pieceLeg(1, 1) = 1; pieceLeg(1, 90) = 15
            pieceLeg(1, 91) = 16; pieceLeg(1, 94) = 16; pieceLeg(1, 95) = 17; pieceLeg(1, 112) = 19; pieceKind(1, 112) = 0
            pieceLength(1, 112) = 38; pieceCourse(1, 112) = 0; pieceX(1, 112) = 0; pieceY(1, 112) = 6600; pieceLeg(1, 113) = BAD_INDEX
            legLength(1, 15) = 720; legLength(1, 16) = 710; legLength(1, 19) = 720; totalLength(1) = 13708; execute() = 20
            pieceCount(0) = 113; pieceY(0, 112) = 6600; totalLength(0) = 13708
            """);
    }

    /**
     * A path of eleven segments round a square, built anew after each of many settings, must stay the same: 250 + 9 * (78 + 200) + 78 +
     * 250 with 400 knots, and 222 + 9 * (122 + 144) + 122 + 222 with 500. Direct to the last fix it is 78 + 254.
     */
    private static void pathsBuiltOverAndOver() {
        StringBuilder script = new StringBuilder("""
            fixes 0,0 0,300 300,300 300,0
            "IF A;TF B;TF C;TF D;TF A;TF B;TF C;TF D;TF A;TF B;TF C;TF D"
            load() = 12; execute() = 12; totalLength(0) = 3080; pieceCount(0) = 21
            """);
        for (int i = 0; i < 40; i++) {
            script.append("setCruise(300, 500) = 300; totalLength(0) = 2960; setCruise(300, 400) = 300; totalLength(0) = 3080\n");
        }
        Script.run("the same settings, the same path", script + "pieceCount(0) = 21; directSaving(11) = 2748\n");
    }
}
