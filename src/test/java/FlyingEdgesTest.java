/** The edges of flying, the present position, and promises 21 to 28. Most titles quote the document. */
public final class FlyingEdgesTest {
    private static final String LINE = """
        fixes 0,0 0,300 0,600 0,900
        "IF A;TF B;TF C;TF D"
        load() = 4; execute() = 4
        """;

    public static void main(String[] args) {
        howFar();
        refusedFlights();
        flightsWithoutLegs();
        overTheEndsOfLegs();
        untilAGap();
        resuming();
        refusedResumes();
        withoutLegs();
        presentPiece();
        positionsOfPieces();
        withoutPieces();
        savings();
        refusedSavings();
        savingsWithAModifiedPlan();
        Script.end();
    }

    private static void howFar() {
        Script.run("length: how far, 0 to 2000", """
            fixes 0,0 0,4000
            "IF A;TF B"
            fly(-1) = BAD_VALUE; fly(2001) = BAD_VALUE; load() = 2; execute() = 2; fly(-1) = BAD_VALUE; fly(2001) = BAD_VALUE
            fly(-2147483648) = BAD_VALUE; fly(2147483647) = BAD_VALUE; currentLeg() = 0; fly(0) = 0; currentLeg() = 1; flownLength() = 0
            fly(1) = 1; fly(1999) = 1999; flownLength() = 2000; fly(2000) = 2000; flownLength() = 4000; fly(2000) = 0; fly(1) = 0
            fly(0) = 0; flownLength() = 4000; currentLeg() = 1
            """);
    }

    private static void refusedFlights() {
        Script.run("BAD_STATE if there is a modified plan, or the active plan has no legs", """
            fixes 0,0 0,300
            fly(0) = BAD_STATE; fly(2000) = BAD_STATE; fly(2001) = BAD_VALUE; fly(-1) = BAD_VALUE
            "IF A;TF B"
            load() = 2; fly(0) = BAD_STATE; fly(1) = BAD_STATE; fly(2001) = BAD_VALUE; execute() = 2; fly(1) = 1; setFlyOver(1, true) = 0
            fly(1) = BAD_STATE; fly(0) = BAD_STATE; fly(-1) = BAD_VALUE; flownLength() = 1; undo() = 0; fly(1) = 1; flownLength() = 2
            setFlyOver(1, true) = 0; cancel() = 2; fly(1) = 1
            """);
    }

    private static void flightsWithoutLegs() {
        Script.run("the active plan has no legs, after a modified plan was dropped or undone", """
            fixes 0,0 0,300
            "IF A;TF B"
            load() = 2; cancel() = 0; fly(1) = BAD_STATE; fly(0) = BAD_STATE; resume() = BAD_STATE; currentLeg() = NONE
            flownLength() = NONE; positionX() = NONE; directSaving(0) = BAD_INDEX; load() = 2; undo() = 0; fly(1) = BAD_STATE
            resume() = BAD_STATE; positionY() = NONE; presentCourse() = NONE
            """);
    }

    private static void overTheEndsOfLegs() {
        Script.run("if the leg has been flown completely, and there is a next leg and no gap before it, this leg becomes the current one",
            LINE + """
            fly(299) = 299; currentLeg() = 1; flownLength() = 299; fly(1) = 1; currentLeg() = 2; flownLength() = 0; fly(301) = 301
            currentLeg() = 3; flownLength() = 1; fly(298) = 298; currentLeg() = 3; flownLength() = 299; fly(2) = 1; currentLeg() = 3
            flownLength() = 300
            """);
        Script.run("it goes on with (1), over several legs at once", LINE + """
            fly(900) = 900; currentLeg() = 3; flownLength() = 300; positionY() = 900
            """);
        Script.run("legs without a length are flown completely at once", """
            fixes 0,0 0,300
            "IF A;TF A;TF A;TF B;TF B;DF B"
            load() = 6; execute() = 6; currentLeg() = 0; fly(0) = 0; currentLeg() = 3; fly(300) = 300; currentLeg() = 5
            flownLength() = 0; positionY() = 300; fly(5) = 0
            """);
        Script.run("from the first to the last of 20 legs", """
            fixes 0,0 0,100
            "IF A;TF A;TF A;TF A;TF A;TF A;TF A;TF A;TF A;TF A"
            load() = 10
            "TF A;TF A;TF A;TF A;TF A;TF A;TF A;TF A;TF A;TF B"
            insert(10) = 20; execute() = 20; fly(2000) = 100; currentLeg() = 19; flownLength() = 100
            """);
    }

    private static void untilAGap() {
        Script.run("otherwise it ends: at a gap before the next leg", """
            fixes 0,0 0,300 0,600
            "IF A;TF B;IF A;TF B"
            load() = 4; execute() = 4; fly(2000) = 300; currentLeg() = 1; flownLength() = 300; fly(2000) = 0; currentLeg() = 1
            resume() = 2; flownLength() = 0; fly(2000) = 300; currentLeg() = 3
            """);
        Script.run("at a gap behind leg 0", """
            fixes 0,0 0,300 0,600
            "IF A;TF B;TF C"
            load() = 3; delete(1) = 2; execute() = 2; fly(0) = 0; currentLeg() = 0; fly(10) = 0; currentLeg() = 0; resume() = 1
            fly(10) = 0; currentLeg() = 1
            """);
        Script.run("at the end of a leg that has no end point", """
            fixes 0,0 0,300
            "IF A;VM 5;TF B;CI 5"
            load() = 4; execute() = 4; fly(2000) = 100; currentLeg() = 1; flownLength() = 100; resume() = 2; fly(2000) = 100
            currentLeg() = 3; flownLength() = 100
            """);
    }

    private static void resuming() {
        Script.run("if the current leg .. has been flown completely, and there is a gap before the next leg, this leg becomes the current one",
            """
            fixes 0,0 0,300
            "IF A;TF B;IF A;IF B;VM 5;TF A"
            load() = 6; execute() = 6; fly(299) = 299; resume() = BAD_STATE; fly(1) = 1; resume() = 2; currentLeg() = 2
            flownLength() = 0; resume() = 3; resume() = BAD_STATE; fly(99) = 99; currentLeg() = 4; resume() = BAD_STATE; fly(1) = 1
            resume() = 5; currentLeg() = 5; resume() = BAD_STATE
            """);
        Script.run("a leg is flown completely, too, if a setting cuts it there", """
            fixes 0,0
            "IF A;CA 6 300;IF A"
            load() = 3; execute() = 3; fly(600) = 600; resume() = BAD_STATE; setGradients(600, 318, 500) = 300; flownLength() = 500
            resume() = 2
            """);
    }

    private static void refusedResumes() {
        Script.run("BAD_STATE if there is a modified plan, or this is not so", """
            resume() = BAD_STATE
            fixes 0,0 0,300
            "IF A;IF B"
            load() = 2; resume() = BAD_STATE; execute() = 2; setFlyOver(1, true) = 0; resume() = BAD_STATE; undo() = 0; resume() = 1
            resume() = BAD_STATE; currentLeg() = 1
            """);
        Script.run("not if there is no gap before the next leg", """
            fixes 0,0 0,300
            "IF A;TF B"
            load() = 2; execute() = 2; flownLength() = 0; resume() = BAD_STATE; currentLeg() = 0; fly(300) = 300; resume() = BAD_STATE
            """);
        Script.run("not if there is no next leg", """
            fixes 0,0
            "VM 5"
            load() = 1; execute() = 1; resume() = BAD_STATE
            "IF A;VM 5"
            load() = 2; execute() = 2; fly(2000) = 100; resume() = BAD_STATE; currentLeg() = 1
            """);
    }

    private static void withoutLegs() {
        Script.run("NONE if the active plan has no legs", """
            fixes 0,0 0,300
            currentLeg() = NONE; flownLength() = NONE; positionX() = NONE; positionY() = NONE; presentCourse() = NONE
            "IF A;TF B"
            load() = 2; currentLeg() = NONE; flownLength() = NONE; positionX() = NONE; positionY() = NONE; presentCourse() = NONE
            execute() = 2; currentLeg() = 0; flownLength() = 0; positionX() = 0; positionY() = 0; presentCourse() = 0
            """);
        Script.run("currentLeg and flownLength answer also if there is no present position", """
            "VM 5"
            load() = 1; execute() = 1; currentLeg() = 0; flownLength() = 0; positionX() = NONE; positionY() = NONE
            presentCourse() = NONE
            """);
        // The way back is too short for the turn of radius 3: an arc of 9, and 6 from its end to the fix, eight times.
        Script.run("the last leg of a full plan", """
            fixes 0,0 0,1
            "IF A;TF B;TF A;TF B;TF A;TF B;TF A;TF B;TF A;TF B"
            load() = 10
            "IF A;IF A;IF A;IF A;IF A;IF A;IF A;IF A;IF A;IF B"
            insert(10) = 20; setCruise(300, 100) = 300; execute() = 20; fly(2000) = 121; currentLeg() = 9; resume() = 10; resume() = 11
            resume() = 12; resume() = 13; resume() = 14; resume() = 15; resume() = 16; resume() = 17; resume() = 18; resume() = 19
            currentLeg() = 19; positionY() = 1; resume() = BAD_STATE
            """);
    }

    private static void presentPiece() {
        // Leg 2 has an arc of 78 from (0, 250) to (50, 300), and 250 straight on course 6.
        Script.run("the first of its pieces for which the lengths .. together are greater than the length flown", """
            fixes 0,0 0,300 300,300
            "IF A;TF B;TF C"
            load() = 3; execute() = 3; fly(249) = 249; positionY() = 249; presentCourse() = 0; fly(1) = 1; currentLeg() = 2
            positionX() = 0; positionY() = 250; presentCourse() = 6; fly(77) = 77; positionX() = 49; positionY() = 299; fly(1) = 1
            flownLength() = 78; positionX() = 50; positionY() = 300; fly(1) = 1; positionX() = 51; positionY() = 300
            """);
        // The CF leg has 370 on course 3, an arc of 39 and 30, both on course 0.
        Script.run("up to this one together: the ends of the pieces of a CF leg", """
            fixes 0,0 300,300
            "IF A;CF B 0"
            load() = 2; execute() = 2; fly(369) = 369; presentCourse() = 3; positionX() = 284; fly(1) = 1; presentCourse() = 0
            positionX() = 285; positionY() = 238; fly(38) = 38; positionX() = 299; positionY() = 269; fly(1) = 1; positionX() = 300
            positionY() = 270; fly(29) = 29; positionY() = 299
            """);
        Script.run("if there is none, it is its last piece", """
            fixes 0,0 0,300 300,300
            "IF A;TF B;VM 3"
            load() = 3; execute() = 3; fly(2000) = 399; currentLeg() = 2; flownLength() = 119; positionX() = 70; positionY() = 370
            presentCourse() = 3; resume() = BAD_STATE
            """);
        // The entry is 40 + 183 = 223 long, and the circuit 394.
        Script.run("the entry and the circuits are pieces of their own", """
            fixes 0,0 0,300
            "IF A;HF B 15 R 40 1"
            load() = 2; execute() = 2; fly(300) = 300; currentLeg() = 1; presentCourse() = 15; positionY() = 300; fly(2000) = 617
            flownLength() = 917; positionX() = 0; positionY() = 300; presentCourse() = 15
            """);
    }

    private static void positionsOfPieces() {
        // Behind a gap the first piece begins at the end point of the leg that starts anew: (100, 100), not where the path ended before.
        Script.run("after a leg that starts anew and has an end point, it is this end point", """
            fixes 0,0 0,300 100,100 100,200
            "IF A;TF B;IF C;TF D"
            load() = 4; execute() = 4; fly(300) = 300; positionX() = 0; positionY() = 300; resume() = 2; positionX() = 100
            positionY() = 100; fly(50) = 50; positionX() = 100; positionY() = 150
            """);
        Script.run("a leg with a gap mark, and one behind a leg without an end", """
            fixes 0,0 0,300 100,100 100,200
            "IF A;TF B;VM 6;TF C;TF D"
            load() = 5; delete(1) = 4; execute() = 4; hasGap(0, 1) = 1; currentLeg() = 0; resume() = 1; positionX() = NONE; resume() = 2
            positionX() = 100; fly(30) = 30; positionX() = 100; positionY() = 130; currentLeg() = 3
            """);
        Script.run("from a point behind the last piece: a PP leg", """
            fixes 0,0 0,300 300,100
            "IF A;TF B;TF C"
            load() = 3; execute() = 3; fly(100) = 100; directTo(2) = 2; execute() = 2; fly(0) = 0; positionX() = 0; positionY() = 100
            fly(39) = 39; positionX() = 25; positionY() = 125; presentCourse() = 6
            """);
    }

    private static void withoutPieces() {
        String[] legs = {"IF A", "TF A", "DF A", "CF A 9"};
        int[] courses = {0, 0, 0, 9};
        for (int i = 0; i < legs.length; i++) {
            Script.run("If the leg has no pieces, the position is its end point, and the course is that of the leg for the kinds CF ..", """
                fixes -12,34
                "LEG"
                load() = 1; execute() = 1; pieceCount(0) = 0; positionX() = -12; positionY() = 34; presentCourse() = COURSE
                """.replace("LEG", legs[i]).replace("COURSE", "" + courses[i]));
        }
        for (String leg : new String[] {"CA 9 50", "CI 9", "VM 9"}) {
            Script.run("If it has no end point either .., there is no present position", """
                fixes -12,34
                "LEG;TF A"
                load() = 2; execute() = 2; positionX() = NONE; positionY() = NONE; presentCourse() = NONE; currentLeg() = 0; resume() = 1
                positionX() = -12
                """.replace("LEG", leg));
        }
        // The fix of the HF leg is where the path begins; its pattern is its only piece.
        Script.run("and HF: the course of its pattern", """
            fixes -12,34
            "HF A 9 L 10 1"
            load() = 1; execute() = 1; positionX() = -12; positionY() = 34; presentCourse() = 9; pieceCount(0) = 1
            """);
        Script.run("and PP", """
            fixes 0,0 -200,0
            "IF A;TF B"
            load() = 2; execute() = 2; fly(50) = 50; directTo(1) = 2; execute() = 2; positionX() = -50; positionY() = 0
            presentCourse() = 18; pieceLeg(0, 0) = 1
            """);
        // Leg 2 has no length; the path goes on over it, but it can be the last one.
        Script.run("0 otherwise, whatever course led there", """
            fixes 0,0 200,0
            "IF A;TF B;TF B"
            load() = 3; execute() = 3; fly(199) = 199; presentCourse() = 6; fly(1) = 1; currentLeg() = 2; presentCourse() = 0
            positionX() = 200
            """);
    }

    private static void savings() {
        Script.run("it can be negative; from the current leg to this leg together, minus the length flown on the current leg", LINE + """
            directSaving(0) = 0; directSaving(1) = 0; directSaving(3) = 0; fly(0) = 0; directSaving(1) = 0; directSaving(3) = 0
            fly(299) = 299; directSaving(1) = 0; directSaving(2) = 0; directSaving(3) = 0
            """);
        // The legs are 250, 78 + 250 and 131 + 329 long. D lies 50 ahead at first; then 50 behind, with an arc of 157 and 111 to it.
        Script.run("how much shorter it is to go direct to a leg", """
            fixes 0,0 0,300 300,300 0,150
            "IF A;TF B;TF C;DF D"
            load() = 4; execute() = 4; fly(100) = 100; legLength(0, 1) = 250; legLength(0, 2) = 328; directSaving(1) = 0
            legLength(0, 3) = 460; directSaving(3) = 888; directTo(3) = 2; legLength(1, 1) = 50; cancel() = 4; fly(100) = 100; directSaving(3) = 570
            directTo(3) = 2; legLength(1, 1) = 268
            """);
        Script.run("it can be negative", """
            fixes 0,0 0,300 0,600 0,310
            "IF A;TF B;IF C;TF C"
            load() = 4; execute() = 4; fly(100) = 100; directSaving(2) = -300; directSaving(3) = -300
            """);
    }

    private static void refusedSavings() {
        Script.run("BAD_INDEX if there is no such leg", """
            directSaving(0) = BAD_INDEX; directSaving(-1) = BAD_INDEX
            fixes 0,0
            "IF A"
            load() = 1; directSaving(0) = BAD_INDEX; execute() = 1; directSaving(0) = 0; directSaving(1) = BAD_INDEX
            directSaving(-1) = BAD_INDEX; directSaving(2147483647) = BAD_INDEX; directSaving(-2147483648) = BAD_INDEX
            """);
        Script.run("BAD_STATE if it is before the current leg, it has no fix, or there is no present position", """
            fixes 0,0 0,300 0,600
            "IF A;TF B;CA 0 50;TF C;CI 6;IF A;VM 6"
            load() = 7; execute() = 7; directSaving(2) = BAD_STATE; directSaving(4) = BAD_STATE; directSaving(6) = BAD_STATE
            directSaving(0) = 0; directSaving(7) = BAD_INDEX; fly(0) = 0; directSaving(0) = BAD_STATE; directSaving(1) = 0; fly(300) = 300
            currentLeg() = 2; directSaving(1) = BAD_STATE; directSaving(2) = BAD_STATE; directSaving(3) = 0
            """);
        Script.run("no present position", """
            fixes 0,0
            "VM 5;TF A"
            load() = 2; execute() = 2; directSaving(1) = BAD_STATE; directSaving(0) = BAD_STATE; directSaving(2) = BAD_INDEX; resume() = 1
            directSaving(1) = 0
            """);
    }

    private static void savingsWithAModifiedPlan() {
        Script.run("that directTo(index) would make if there were no modified plan", LINE + """
            fly(100) = 100
            "VM 5"
            load() = 1; directSaving(3) = 0; directSaving(1) = 0; directSaving(0) = BAD_STATE; directSaving(4) = BAD_INDEX
            legCount(1) = 1; undo() = 0; legCount(1) = BAD_INDEX
            """);
        Script.run("directSaving makes no plan, and records nothing", LINE + """
            fly(100) = 100; directSaving(3) = 0; legCount(1) = BAD_INDEX; undo() = BAD_STATE; currentLeg() = 1; flownLength() = 100
            delete(3) = 3; directSaving(3) = 0; directSaving(2) = 0; legCount(1) = 3; undo() = 0
            """);
    }
}
