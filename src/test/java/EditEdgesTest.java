/** The edges of the edits, promises 10 to 17, and of what the terms say of plans and legs. Most titles quote the document. */
public final class EditEdgesTest {
    /** Five fixes on a line, and the plan that joins them, whose legs are 300 long. */
    private static final String LINE = """
        fixes 0,0 0,300 0,600 0,900 0,1200 500,500
        "IF A;TF B;TF C;TF D;TF E"
        load() = 5; execute() = 5
        """;
    /** A plan of 20 legs, which go to and fro between A and B; its last leg is at B. */
    private static final String TWENTY = """
        fixes 0,0 0,300 0,600
        "IF A;TF B;TF A;TF B;TF A;TF B;TF A;TF B;TF A;TF B"
        load() = 10
        "TF A;TF B;TF A;TF B;TF A;TF B;TF A;TF B;TF A;TF B"
        insert(10) = 20; execute() = 20
        """;

    public static void main(String[] args) {
        legsAtFirst();
        firstEditMakesACopy();
        loading();
        insertingAtIndex();
        insertingBehindTheCurrentLeg();
        insertingUpToAFix();
        insertingWithAGap();
        insertingIntoAFullPlan();
        deleting();
        closingGaps();
        settingWindows();
        settingSpeedLimits();
        settingFlyOver();
        goingDirect();
        refusedDirect();
        goingDirectInAFullPlan();
        whatStaysWithDirect();
        Script.end();
    }

    private static void legsAtFirst() {
        // With the cruise altitude 450 the window's ends show as the climb and descent altitudes.
        Script.run("a window of altitudes, from low to high (0 to 450 unless something else is said)", """
            fixes 0,0
            "IF A;CA 0 450"
            load() = 2; setCruise(450, 400) = 300; climbAltitude(1, 1) = 450; descentAltitude(1, 1) = 0; setEnds(0, 450) = 0
            descentAltitude(1, 1) = 450; violation(1, 0) = 0; violation(1, 1) = 0
            """);
        Script.run("a speed limit (999 unless something else is said); a mark .. (not, at first); and a gap mark (none at first)", """
            fixes 0,0 0,300
            "IF A;TF B;DF A;CF B 5;CA 5 5;CI 5;VM 5;HF A 5 L 10 1"
            load() = 8; execute() = 8; closeGap(1) = BAD_STATE; closeGap(2) = BAD_STATE; closeGap(3) = BAD_STATE; closeGap(4) = BAD_STATE
            closeGap(5) = BAD_STATE; closeGap(6) = BAD_STATE; closeGap(7) = BAD_STATE; setSpeedLimit(0, 100) = 999
            setSpeedLimit(3, 100) = 999; setSpeedLimit(4, 100) = 999; setSpeedLimit(7, 100) = 999; setFlyOver(0, true) = 0
            setFlyOver(3, true) = 0; setFlyOver(4, true) = 0; setFlyOver(7, true) = 0
            """);
    }

    private static void firstEditMakesACopy() {
        String[] edits = {"load() = 1", "insert(5) = 6", "delete(4) = 4", "closeGap(4) = 0", "setWindow(1, 0, 50) = 0",
            "setSpeedLimit(1, 200) = 999", "setFlyOver(1, true) = 0", "directTo(4) = 2"};
        for (String edit : edits) {
            Script.run("if there is none, the edit first makes it as a copy of the active plan: " + edit, """
                fixes 0,0 0,300 0,600 0,900 0,1200 500,500
                "IF A;TF B;TF C;TF D;TF F;TF E"
                load() = 6; delete(4) = 5; GAPexecute() = 5
                "TF F"
                legCount(1) = BAD_INDEX; EDIT; undo() = 0; legCount(1) = BAD_INDEX; undo() = BAD_STATE; legCount(0) = 5; EDIT
                legCount(0) = 5; legKind(0, 1) = 1; climbAltitude(0, 1) = 90; legTime(0, 1) = 270; turnKind(0, 4) = 0; legFix(0, 4) = 4
                hasGap(0, 4) = HAS; cancel() = 5; legCount(1) = BAD_INDEX
                """.replace("EDIT", edit).replace("GAP", edit.startsWith("closeGap") ? "" : "closeGap(4) = 0; ")
                .replace("HAS", edit.startsWith("closeGap") ? "1" : "0"));
        }
        Script.run("Each edit changes the modified plan", LINE + """
            setSpeedLimit(1, 200) = 999; setSpeedLimit(1, 300) = 200; setFlyOver(1, true) = 0; setFlyOver(1, true) = 1; delete(4) = 4
            delete(3) = 3; delete(3) = BAD_INDEX; legCount(0) = 5; legCount(1) = 3; delete(2) = 2; delete(2) = BAD_INDEX
            """);
    }

    private static void loading() {
        Script.run("BAD_STATE if the text has a fault", LINE + """
            ""
            load() = BAD_STATE; legCount(1) = BAD_INDEX
            "TF A;"
            load() = BAD_STATE
            "TF G"
            load() = BAD_STATE
            "TF A"
            load() = 1; type(59) = 5; load() = BAD_STATE; legCount(1) = 1; undo() = 0
            """);
        Script.run("Replaces all legs of the modified plan by those of the text", TWENTY + """
            setFlyOver(19, true) = 0; legCount(1) = 20
            "VM 5"
            load() = 1; legCount(1) = 1; legKind(1, 0) = 6; legKind(1, 1) = BAD_INDEX; legCount(0) = 20; undo() = 1; legCount(1) = 20
            "IF C;TF A;TF B;TF C;TF A;TF B;TF C;TF A;TF B;TF C;TF A;TF B"
            load() = 12; legFix(1, 11) = 1; legFix(1, 0) = 2; legKind(1, 12) = BAD_INDEX; legCount(1) = 12
            """);
        Script.run("without gap marks; its current leg is 0. The text stays", LINE + """
            fly(650) = 650; currentLeg() = 3; load() = 5; delete(1) = 4; hasGap(1, 1) = 1; load() = 5; hasGap(1, 1) = 0
            closeGap(1) = BAD_STATE; setFlyOver(0, true) = 0; clearText() = 24; execute() = 5; currentLeg() = 0; flownLength() = 0
            """);
    }

    private static void insertingAtIndex() {
        Script.run("index: the number of the leg, from 0 to the number of legs, in a plan without legs", """
            fixes 0,0 0,300
            "IF A;TF B"
            insert(-1) = BAD_INDEX; insert(1) = BAD_INDEX; insert(2) = BAD_INDEX; insert(-2147483648) = BAD_INDEX
            insert(2147483647) = BAD_INDEX; legCount(1) = BAD_INDEX; insert(0) = 2; gapCount(1) = 0; hasGap(1, 0) = 0; clearText() = 9
            """);
        Script.run("index: the number of the leg, from 0 to the number of legs", LINE + """
            "DF F"
            insert(-1) = BAD_INDEX; insert(6) = BAD_INDEX; insert(7) = BAD_INDEX; insert(2147483647) = BAD_INDEX; insert(5) = 6
            legKind(1, 5) = 2; legFix(1, 5) = 5; insert(8) = BAD_INDEX; insert(7) = BAD_INDEX; insert(6) = 7; undo() = 1; undo() = 0
            insert(1) = 6; legFix(1, 0) = 0; legFix(1, 1) = 5; legFix(1, 2) = 1; legFix(1, 5) = 4
            """);
        Script.run("Returns the number of legs after that; BAD_STATE if the text has a fault. The text stays", LINE + """
            "DF F;"
            insert(5) = BAD_STATE; insert(6) = BAD_INDEX; legCount(1) = BAD_INDEX
            ""
            insert(5) = BAD_STATE; insert(-1) = BAD_INDEX
            "DF F;VM 5"
            insert(5) = 7; clearText() = 9; insert(5) = BAD_STATE; legCount(1) = 7
            """);
    }

    private static void insertingBehindTheCurrentLeg() {
        Script.run("BAD_STATE if .. the plan has legs and index is not greater than its current leg", LINE + """
            "DF F"
            insert(0) = BAD_STATE; insert(1) = 6; undo() = 0; fly(0) = 0; currentLeg() = 1; insert(0) = BAD_STATE; insert(1) = BAD_STATE
            insert(2) = 6; undo() = 0; fly(600) = 600; currentLeg() = 3; insert(3) = BAD_STATE; insert(2) = BAD_STATE; insert(4) = 6
            undo() = 0; fly(600) = 600; currentLeg() = 4; flownLength() = 300; insert(4) = BAD_STATE; insert(5) = 6
            """);
        Script.run("the current leg of the modified plan, not that of the active one", LINE + """
            fly(700) = 700; currentLeg() = 3
            "DF F"
            insert(1) = BAD_STATE; load() = 1; insert(0) = BAD_STATE; insert(1) = 2; currentLeg() = 3
            """);
    }

    private static void insertingUpToAFix() {
        Script.run("this fix is that of a leg of the plan from index on: the leg index itself", LINE + """
            "DF B"
            insert(1) = 5; legKind(1, 1) = 2; legFix(1, 1) = 1; legFix(1, 2) = 2; gapCount(1) = 0; undo() = 0; insert(2) = 6
            legFix(1, 1) = 1; legFix(1, 2) = 1; legKind(1, 2) = 2; legFix(1, 3) = 2; hasGap(1, 3) = 1; hasGap(1, 2) = 0
            """);
        Script.run("from index on: the last leg of the plan", LINE + """
            "DF E"
            insert(1) = 2; legFix(1, 1) = 4; legKind(1, 1) = 2; gapCount(1) = 0; undo() = 0; insert(4) = 5; legKind(1, 4) = 2
            legFix(1, 3) = 3; undo() = 0; insert(5) = 6; legFix(1, 4) = 4; legFix(1, 5) = 4
            """);
        Script.run("let j be the first such leg: then the legs from index to j are removed", """
            fixes 0,0 0,300 0,600 0,900
            "IF A;TF B;TF C;TF D;TF C;TF B;TF C"
            load() = 7
            "VM 5;DF C"
            insert(1) = 7; legKind(1, 1) = 6; legKind(1, 2) = 2; legFix(1, 3) = 3; legFix(1, 4) = 2; undo() = 1; insert(3) = 7
            legFix(1, 2) = 2; legKind(1, 3) = 6; legKind(1, 4) = 2; legFix(1, 5) = 1; legFix(1, 6) = 2; undo() = 1; insert(5) = 7
            legFix(1, 4) = 2; legKind(1, 5) = 6; legKind(1, 6) = 2; undo() = 1; insert(7) = 9; legFix(1, 6) = 2; legKind(1, 8) = 2
            """);
        Script.run("a leg before index does not count", """
            fixes 0,0 0,300 0,600
            "IF A;TF B;TF C"
            load() = 3
            "DF A"
            insert(1) = 4; legFix(1, 0) = 0; legFix(1, 1) = 0; legFix(1, 2) = 1; hasGap(1, 2) = 1
            """);
        Script.run("If the last leg of the text has a fix: not the others of the text", LINE + """
            "DF C;DF F"
            insert(1) = 7; legFix(1, 3) = 1; hasGap(1, 3) = 1; legFix(1, 4) = 2; undo() = 0
            "DF E;CA 5 5"
            insert(1) = 7; legFix(1, 3) = 1; hasGap(1, 3) = 1; undo() = 0
            "DF E;CI 5"
            insert(1) = 7; legFix(1, 3) = 1; undo() = 0
            "DF E;VM 5"
            insert(1) = 7; legFix(1, 3) = 1
            """);
        Script.run("a last leg without a fix finds no leg without a fix", """
            fixes 0,0 0,300
            "IF A;CA 5 5;CI 5;VM 5;TF B"
            load() = 5
            "VM 7"
            insert(1) = 6; legKind(1, 1) = 6; legKind(1, 2) = 4; hasGap(1, 2) = 1; undo() = 1; insert(3) = 6; legKind(1, 4) = 6
            """);
        for (String last : new String[] {"IF B", "TF B", "DF B", "CF B 5", "HF B 5 L 10 1"}) {
            Script.run("any kind with a fix: " + last, """
                fixes 0,0 0,300 0,600
                "IF A;TF C;LAST;TF C"
                load() = 4
                "TF B"
                insert(1) = 3; legFix(1, 1) = 1; legFix(1, 2) = 2; undo() = 1; execute() = 4
                "VM 5;LAST"
                insert(1) = 4; legKind(1, 1) = 6; legFix(1, 2) = 1; legFix(1, 3) = 2
                """.replace("LAST", last));
        }
        String sixteen = "fixes 0,0 0,1 0,2 0,3 0,4 0,5 0,6 0,7 0,8 0,9 0,10 0,11 0,12 0,13 0,14 0,15\n";
        Script.run("then the legs from index to j are removed, of a full plan", sixteen + """
            "IF A;TF B;TF C;TF D;TF E;TF F;TF G;TF H;TF I;TF J;TF K;TF L"
            load() = 12
            "TF M;TF N;TF O;TF P;TF A;TF B;TF C;TF D"
            insert(12) = 20
            "DF L"
            insert(2) = 11; legFix(1, 1) = 1; legFix(1, 2) = 11; legKind(1, 2) = 2; legFix(1, 3) = 12; legFix(1, 6) = 15
            legFix(1, 7) = 0; legFix(1, 10) = 3; legFix(1, 11) = BAD_INDEX; gapCount(1) = 0; undo() = 2
            "VM 1;VM 2;DF D"
            insert(1) = 20; legKind(1, 1) = 6; legKind(1, 2) = 6; legFix(1, 3) = 3; legFix(1, 4) = 4; legFix(1, 19) = 3; undo() = 2
            insert(2) = FULL; insert(17) = 20; legKind(1, 17) = 6; legFix(1, 19) = 3; legFix(1, 16) = 0
            "DF D"
            insert(1) = 18; legFix(1, 1) = 3; legFix(1, 2) = 4; legFix(1, 17) = 3; legKind(1, 15) = 6; legFix(1, 14) = 0
            """);
        Script.run("the gap mark of the leg behind j stays as it is", """
            fixes 0,0 0,300 0,600 0,900
            "IF A;TF B;TF C;TF D;TF C"
            load() = 5; delete(3) = 4; hasGap(1, 3) = 1
            "DF C"
            insert(1) = 3; hasGap(1, 1) = 0; hasGap(1, 2) = 1; closeGap(2) = 0
            "DF B"
            insert(1) = 4; hasGap(1, 2) = 1; legFix(1, 2) = 2; closeGap(2) = 0
            "TF B;DF C"
            insert(1) = 4; hasGap(1, 1) = 0; hasGap(1, 2) = 0; hasGap(1, 3) = 0; closeGap(2) = BAD_STATE
            """);
    }

    private static void insertingWithAGap() {
        Script.run("Otherwise the leg that had the number index, if there is one, gets a gap mark", LINE + """
            "DF F;DF F"
            insert(1) = 7; hasGap(1, 1) = 0; hasGap(1, 2) = 0; hasGap(1, 3) = 1; hasGap(1, 4) = 0; closeGap(1) = BAD_STATE
            closeGap(2) = BAD_STATE; closeGap(4) = BAD_STATE; closeGap(3) = 0; undo() = 1; undo() = 0; insert(4) = 7; hasGap(1, 6) = 1
            legFix(1, 6) = 4; undo() = 0; insert(5) = 7; gapCount(1) = 0; closeGap(6) = BAD_STATE; closeGap(5) = BAD_STATE
            """);
    }

    private static void insertingIntoAFullPlan() {
        Script.run("A plan has at most 20 legs; FULL if there would be more than 20 legs", TWENTY + """
            "TF C"
            insert(20) = FULL; insert(1) = FULL; insert(21) = BAD_INDEX; insert(0) = BAD_STATE; legCount(1) = BAD_INDEX
            undo() = BAD_STATE; delete(19) = 19; insert(19) = 20; legFix(1, 19) = 2; insert(20) = FULL; legKind(1, 20) = BAD_INDEX
            undo() = 1; delete(18) = 18
            "TF C;TF C"
            insert(18) = 20; undo() = 2; insert(1) = 20; hasGap(1, 3) = 1; legFix(1, 19) = 1; undo() = 2
            "TF C;TF C;TF C"
            insert(18) = FULL; insert(1) = FULL; legCount(1) = 18
            """);
        Script.run("the legs that are removed make room", TWENTY + """
            "DF B"
            insert(1) = 20; legKind(1, 1) = 2; legFix(1, 19) = 1; undo() = 0; insert(20) = FULL; insert(19) = 20; legKind(1, 19) = 2
            undo() = 0
            "VM 5;DF B"
            insert(1) = FULL; insert(2) = 20; legKind(1, 2) = 6; legKind(1, 3) = 2; legFix(1, 4) = 0; legFix(1, 19) = 1; undo() = 0
            "VM 5;VM 5;DF B"
            insert(2) = FULL; insert(1) = FULL; insert(19) = FULL; insert(20) = FULL
            "VM 5;DF A"
            insert(19) = FULL; insert(18) = FULL; insert(17) = 20; legKind(1, 17) = 6; legKind(1, 18) = 2; legFix(1, 19) = 1
            """);
        Script.run("twelve legs of the text and eight of the plan", """
            fixes 0,0 0,300
            "IF A;TF B;TF A;TF B;TF A;TF B;TF A;TF B"
            load() = 8
            "VM 1;VM 2;VM 3;VM 4;VM 5;VM 6;VM 7;VM 8;VM 9;VM 10;VM 11;VM 12"
            insert(1) = 20; legKind(1, 0) = 0; legKind(1, 1) = 6; legKind(1, 12) = 6; legKind(1, 13) = 1; legFix(1, 19) = 1; undo() = 1
            insert(8) = 20; legKind(1, 8) = 6; legKind(1, 19) = 6; undo() = 1
            "TF A"
            insert(8) = 9
            "VM 1;VM 2;VM 3;VM 4;VM 5;VM 6;VM 7;VM 8;VM 9;VM 10;VM 11;VM 12"
            insert(9) = FULL; insert(1) = FULL; legCount(1) = 9
            """);
    }

    private static void deleting() {
        Script.run("BAD_INDEX if there is no such leg, in a plan without legs", """
            delete(0) = BAD_INDEX; delete(-1) = BAD_INDEX; delete(1) = BAD_INDEX; legCount(1) = BAD_INDEX
            """);
        Script.run("BAD_INDEX if there is no such leg; Returns the number of legs that are left", LINE + """
            delete(-1) = BAD_INDEX; delete(5) = BAD_INDEX; delete(2147483647) = BAD_INDEX; delete(-2147483648) = BAD_INDEX; delete(4) = 4
            legFix(1, 3) = 3; gapCount(1) = 0; delete(4) = BAD_INDEX; delete(3) = 3; delete(2) = 2; delete(1) = 1; delete(1) = BAD_INDEX
            delete(0) = BAD_STATE; legCount(1) = 1; legCount(0) = 5
            """);
        Script.run("BAD_STATE if it is not behind the current leg of the plan", LINE + """
            delete(0) = BAD_STATE; delete(1) = 4; undo() = 0; fly(0) = 0; currentLeg() = 1; delete(0) = BAD_STATE; delete(1) = BAD_STATE
            delete(2) = 4; undo() = 0; fly(900) = 900; currentLeg() = 4; delete(3) = BAD_STATE; delete(4) = BAD_STATE
            delete(5) = BAD_INDEX; load() = 5; delete(1) = 4
            """);
        Script.run("The next leg, if there is one, gets a gap mark", LINE + """
            delete(2) = 4; hasGap(1, 1) = 0; hasGap(1, 2) = 1; legFix(1, 2) = 3; hasGap(1, 3) = 0; delete(2) = 3; hasGap(1, 2) = 1
            legFix(1, 2) = 4; delete(2) = 2; gapCount(1) = 0; legCount(0) = 5; gapCount(0) = 0
            """);
        Script.run("the first and the last leg that can be removed of 20", TWENTY + """
            delete(20) = BAD_INDEX; delete(0) = BAD_STATE; delete(19) = 19; legKind(1, 19) = BAD_INDEX; gapCount(1) = 0; undo() = 0
            delete(1) = 19; hasGap(1, 1) = 1; legFix(1, 1) = 0; legFix(1, 18) = 1; legKind(1, 19) = BAD_INDEX
            """);
    }

    private static void closingGaps() {
        Script.run("BAD_INDEX if there is no such leg", """
            closeGap(0) = BAD_INDEX; closeGap(-1) = BAD_INDEX; legCount(1) = BAD_INDEX
            """);
        Script.run("BAD_INDEX if there is no such leg; Returns the number of gaps of the plan after that", LINE + """
            closeGap(5) = BAD_INDEX; closeGap(-1) = BAD_INDEX; closeGap(2147483647) = BAD_INDEX; closeGap(-2147483648) = BAD_INDEX
            delete(3) = 4; delete(1) = 3; gapCount(1) = 2; closeGap(3) = BAD_INDEX; closeGap(2) = 1; hasGap(1, 2) = 0; hasGap(1, 1) = 1
            closeGap(1) = 0; gapCount(1) = 0
            """);
        // Gaps before IF legs, and behind a leg without an end, are gaps, but no gap marks.
        Script.run("BAD_STATE if it .. has no gap mark", """
            fixes 0,0 0,300
            "IF A;TF B;IF A;VM 5;TF B;CA 5 5"
            load() = 6; gapCount(1) = 2; closeGap(1) = BAD_STATE; closeGap(2) = BAD_STATE; closeGap(4) = BAD_STATE
            closeGap(5) = BAD_STATE; delete(1) = 5; hasGap(1, 1) = 1; closeGap(1) = 2; hasGap(1, 1) = 1; closeGap(1) = BAD_STATE
            delete(2) = 4; hasGap(1, 2) = 1; closeGap(2) = 1; hasGap(1, 2) = 0
            """);
        Script.run("BAD_STATE if it is not behind the current leg of the plan", LINE + """
            delete(1) = 4; delete(2) = 3; execute() = 3; hasGap(0, 1) = 1; hasGap(0, 2) = 1; closeGap(0) = BAD_STATE; closeGap(1) = 1
            undo() = 0; resume() = 1; closeGap(1) = BAD_STATE; closeGap(0) = BAD_STATE; closeGap(2) = 1; undo() = 0; resume() = 2
            closeGap(2) = BAD_STATE; closeGap(1) = BAD_STATE; closeGap(3) = BAD_INDEX
            """);
    }

    private static void settingWindows() {
        Script.run("BAD_INDEX if there is no such leg", """
            setWindow(0, 0, 450) = BAD_INDEX; setWindow(-1, 0, 450) = BAD_INDEX; legCount(1) = BAD_INDEX
            """);
        Script.run("BAD_INDEX if there is no such leg, the first and the last one", LINE + """
            setWindow(-1, 0, 450) = BAD_INDEX; setWindow(5, 0, 450) = BAD_INDEX; setWindow(2147483647, 0, 450) = BAD_INDEX
            setWindow(-2147483648, 0, 450) = BAD_INDEX; setWindow(0, 0, 450) = 0; setWindow(4, 0, 450) = 0
            """);
        Script.run("low: 0 to 450; high: low to 450", LINE + """
            setWindow(1, -1, 450) = BAD_VALUE; setWindow(1, 0, 450) = 0; setWindow(1, 0, 451) = BAD_VALUE; setWindow(1, 0, -1) = BAD_VALUE
            setWindow(1, 0, 0) = 0; setWindow(1, 451, 451) = BAD_VALUE; setWindow(1, 450, 450) = 1; setWindow(1, 450, 451) = BAD_VALUE
            setWindow(1, 451, 450) = BAD_VALUE; setWindow(1, 450, 449) = BAD_VALUE; setWindow(1, 90, 90) = 0
            setWindow(1, 90, 89) = BAD_VALUE; setWindow(1, 90, 91) = 0; setWindow(1, -1, -1) = BAD_VALUE; setWindow(1, 1, 0) = BAD_VALUE
            setWindow(1, -2147483648, 450) = BAD_VALUE; setWindow(1, 0, 2147483647) = BAD_VALUE; setWindow(1, 0, -2147483648) = BAD_VALUE
            setWindow(1, 2147483647, 2147483647) = BAD_VALUE; climbAltitude(1, 1) = 90; descentAltitude(1, 1) = 91
            """);
        Script.run("Returns the number of violations of the plan after that, as returned by violationCount", LINE + """
            setWindow(1, 91, 450) = 1; violationCount(1) = 1; setWindow(2, 181, 450) = 2; violationCount(1) = 2; violationCount(0) = 0
            setWindow(0, 1, 450) = 3; setWindow(0, 0, 450) = 2; setWindow(2, 180, 450) = 1; setWindow(1, 90, 450) = 0
            """);
        Script.run("BAD_STATE if the leg is before the current leg of the plan", LINE + """
            fly(350) = 350; currentLeg() = 2; setWindow(0, 0, 450) = BAD_STATE; setWindow(1, 0, 450) = BAD_STATE; setWindow(2, 0, 50) = 0
            climbAltitude(1, 2) = 50; setWindow(1, 0, 450) = BAD_STATE; load() = 5; setWindow(0, 0, 450) = 0
            """);
        Script.run("a window is set in the modified plan alone, until it is executed", LINE + """
            setWindow(1, 0, 33) = 0; climbAltitude(0, 1) = 90; climbAltitude(1, 1) = 33; execute() = 5; climbAltitude(0, 1) = 33
            """);
    }

    private static void settingSpeedLimits() {
        Script.run("BAD_INDEX if there is no such leg", """
            setSpeedLimit(0, 999) = BAD_INDEX; setSpeedLimit(-1, 999) = BAD_INDEX; legCount(1) = BAD_INDEX
            """);
        Script.run("BAD_INDEX if there is no such leg, the first and the last one", LINE + """
            setSpeedLimit(-1, 999) = BAD_INDEX; setSpeedLimit(5, 999) = BAD_INDEX; setSpeedLimit(2147483647, 999) = BAD_INDEX
            setSpeedLimit(-2147483648, 999) = BAD_INDEX; setSpeedLimit(0, 200) = 999; setSpeedLimit(4, 200) = 999
            """);
        Script.run("speed: 100 to 500, or 999 for none; Returns the previous speed limit", LINE + """
            setSpeedLimit(1, 99) = BAD_VALUE; setSpeedLimit(1, 100) = 999; legTime(1, 1) = 1080; setSpeedLimit(1, 500) = 100
            setSpeedLimit(1, 501) = BAD_VALUE; setSpeedLimit(1, 998) = BAD_VALUE; setSpeedLimit(1, 1000) = BAD_VALUE
            setSpeedLimit(1, 999) = 500; setSpeedLimit(1, 0) = BAD_VALUE; setSpeedLimit(1, -1) = BAD_VALUE; setSpeedLimit(1, 999) = 999
            setSpeedLimit(1, 2147483647) = BAD_VALUE; setSpeedLimit(1, -2147483648) = BAD_VALUE; legTime(1, 1) = 270
            """);
        Script.run("BAD_STATE if the leg is before the current leg of the plan", LINE + """
            fly(350) = 350; currentLeg() = 2; setSpeedLimit(0, 200) = BAD_STATE; setSpeedLimit(1, 200) = BAD_STATE
            setSpeedLimit(2, 200) = 999; legTime(1, 2) = 540; legTime(0, 2) = 270; setSpeedLimit(1, 200) = BAD_STATE; load() = 5
            setSpeedLimit(0, 200) = 999
            """);
    }

    private static void settingFlyOver() {
        Script.run("BAD_INDEX if there is no such leg", """
            setFlyOver(0, true) = BAD_INDEX; setFlyOver(-1, false) = BAD_INDEX; legCount(1) = BAD_INDEX
            """);
        Script.run("BAD_INDEX if there is no such leg; Returns 1 if it was marked before, else 0", LINE + """
            setFlyOver(-1, true) = BAD_INDEX; setFlyOver(5, true) = BAD_INDEX; setFlyOver(2147483647, true) = BAD_INDEX
            setFlyOver(-2147483648, false) = BAD_INDEX; setFlyOver(0, false) = 0; setFlyOver(0, true) = 0; setFlyOver(0, true) = 1
            setFlyOver(0, false) = 1; setFlyOver(0, false) = 0; setFlyOver(4, true) = 0; setFlyOver(4, false) = 1
            """);
        Script.run("BAD_STATE if the leg is before the current leg of the plan", LINE + """
            fly(350) = 350; currentLeg() = 2; setFlyOver(0, true) = BAD_STATE; setFlyOver(1, false) = BAD_STATE; setFlyOver(2, true) = 0
            setFlyOver(1, true) = BAD_STATE; load() = 5; setFlyOver(0, true) = 0
            """);
    }

    private static void goingDirect() {
        Script.run("all legs before it are removed; a PP leg .. becomes leg 0; the leg itself becomes leg 1 .. of kind DF", LINE + """
            fly(100) = 100; directTo(4) = 2; legKind(1, 0) = 8; endX(1, 0) = 0; endY(1, 0) = 100; legKind(1, 1) = 2; legFix(1, 1) = 4
            legLength(1, 1) = 1100; undo() = 0; directTo(1) = 5; legFix(1, 1) = 1; legFix(1, 4) = 4; legKind(1, 2) = 1
            legLength(1, 1) = 200
            """);
        for (String leg : new String[] {"IF B", "TF B", "DF B", "CF B 5"}) {
            Script.run("of kind DF, unless it is an HF leg: " + leg, """
                fixes 0,0 0,300
                "IF A;LEG"
                load() = 2; execute() = 2; directTo(1) = 2; legKind(1, 1) = 2; legFix(1, 1) = 1; legLength(1, 1) = 300
                directTo(1) = 2; legKind(1, 1) = 2
                """.replace("LEG", leg));
        }
        Script.run("unless it is an HF leg", """
            fixes 0,0 0,300
            "IF A;HF B 0 L 50 2"
            load() = 2; execute() = 2; directTo(1) = 2; legKind(1, 1) = 7; legLength(1, 1) = 1128; directTo(1) = 2; legKind(1, 1) = 7
            """);
        Script.run("without a gap mark; All else stays: the gap marks of other legs", LINE + """
            delete(3) = 4; delete(1) = 3; execute() = 3; directTo(1) = 3; hasGap(1, 1) = 0; hasGap(1, 2) = 1; closeGap(1) = BAD_STATE
            closeGap(2) = 0; undo() = 1; undo() = 0; directTo(2) = 2; hasGap(1, 1) = 0
            """);
        Script.run("The current leg is 0", LINE + """
            fly(700) = 700; currentLeg() = 3; directTo(4) = 2; delete(1) = 1; undo() = 1; setFlyOver(0, true) = 0; currentLeg() = 3
            execute() = 2; currentLeg() = 0; flownLength() = 0; positionY() = 700; presentCourse() = 0
            """);
    }

    private static void refusedDirect() {
        Script.run("BAD_INDEX if there is no such leg", """
            directTo(0) = BAD_INDEX; directTo(-1) = BAD_INDEX; legCount(1) = BAD_INDEX
            """);
        Script.run("number of the leg in the modified plan (as it is, or would be made)", LINE + """
            directTo(-1) = BAD_INDEX; directTo(5) = BAD_INDEX; directTo(2147483647) = BAD_INDEX; directTo(-2147483648) = BAD_INDEX
            directTo(4) = 2; directTo(2) = BAD_INDEX; directTo(4) = BAD_INDEX; undo() = 0; delete(4) = 4; directTo(4) = BAD_INDEX
            directTo(3) = 2
            """);
        Script.run("BAD_STATE if it is before the current leg of the plan", LINE + """
            directTo(0) = 6; undo() = 0; fly(350) = 350; currentLeg() = 2; directTo(0) = BAD_STATE; directTo(1) = BAD_STATE
            directTo(2) = 4; legFix(1, 1) = 2; undo() = 0; load() = 5; directTo(0) = 6; directTo(0) = BAD_STATE; directTo(1) = 6
            """);
        Script.run("it has no fix", """
            fixes 0,0 0,300
            "IF A;CA 5 5;TF B;CI 5;IF B;VM 5;TF A"
            load() = 7; execute() = 7; directTo(1) = BAD_STATE; directTo(3) = BAD_STATE; directTo(5) = BAD_STATE; directTo(6) = 2
            directTo(0) = BAD_STATE; undo() = 0; directTo(2) = 6; directTo(0) = BAD_STATE; directTo(2) = BAD_STATE; directTo(3) = 4
            """);
        Script.run("there is no present position: the active plan has no legs", """
            fixes 0,0 0,300
            "IF A;TF B"
            load() = 2; directTo(1) = BAD_STATE; directTo(2) = BAD_INDEX; legCount(1) = 2
            """);
        Script.run("there is no present position: the current leg has neither pieces nor an end point", """
            fixes 0,0 0,300
            "VM 5;TF A;TF B"
            load() = 3; execute() = 3; directTo(1) = BAD_STATE; directTo(2) = BAD_STATE; resume() = 1; directTo(1) = 3; undo() = 0
            directTo(2) = 2
            """);
    }

    private static void goingDirectInAFullPlan() {
        Script.run("FULL if there would be more than 20 legs", TWENTY + """
            directTo(0) = FULL; directTo(20) = BAD_INDEX; directTo(-1) = BAD_INDEX; legCount(1) = BAD_INDEX; directTo(1) = 20
            legKind(1, 0) = 8; legFix(1, 1) = 1; legFix(1, 19) = 1; directTo(0) = BAD_STATE; directTo(1) = 20; directTo(19) = 2; undo() = 2
            undo() = 1; undo() = 0; delete(19) = 19; directTo(0) = 20; legFix(1, 1) = 0; legFix(1, 19) = 0; directTo(0) = BAD_STATE
            """);
        Script.run("FULL only if there is a present position", """
            fixes 0,0 0,300
            "TF A;VM 5;TF A;TF B;TF A;TF B;TF A;TF B;TF A;TF B"
            load() = 10
            "TF A;TF B;TF A;TF B;TF A;TF B;TF A;TF B;TF A;TF B"
            insert(10) = 20; directTo(0) = BAD_STATE; execute() = 20; directTo(0) = FULL; fly(0) = 0; currentLeg() = 1
            directTo(0) = BAD_STATE
            """);
    }

    private static void whatStaysWithDirect() {
        Script.run("All else stays", """
            fixes 0,0 0,300 300,300 600,300
            "IF A;TF B;TF C O B 5 90 S 300;TF D O - 80 S 200"
            load() = 4; execute() = 4; directTo(2) = 3; setSpeedLimit(1, 999) = 300; setFlyOver(1, true) = 1; climbAltitude(1, 1) = 90
            descentAltitude(1, 2) = 0; setSpeedLimit(2, 999) = 200; setFlyOver(2, true) = 1; climbAltitude(1, 2) = 80
            """);
        Script.run("the PP leg is a leg like others at first", """
            fixes 0,0 300,0
            "IF A;TF B"
            load() = 2; setCruise(450, 400) = 300; setEnds(450, 450) = 0; execute() = 2; fly(100) = 100; directTo(1) = 2
            climbAltitude(1, 0) = 450; descentAltitude(1, 0) = 450; violation(1, 0) = 0; setSpeedLimit(0, 100) = 999
            setFlyOver(0, false) = 0; hasGap(1, 0) = 0; legFix(1, 0) = NONE; legLength(1, 0) = 0; legCourse(1, 0) = NONE; endX(1, 0) = 100
            endY(1, 0) = 0; holdEntry(1, 0) = NONE; turnKind(1, 0) = 0; setWindow(0, 0, 100) = 1
            """);
        Script.run("from the present position (of the active plan), also if the modified plan is another one", LINE + """
            fly(100) = 100
            "IF F;TF A"
            load() = 2; directTo(1) = 2; endX(1, 0) = 0; endY(1, 0) = 100; legFix(1, 1) = 0; presentCourse() = 0; turnSteps(1, 1) = 12
            """);
    }
}
