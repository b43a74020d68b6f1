/** The edges of the history and the progress, and of promises 18 to 20: undo, execute and cancel. Most titles quote the document. */
public final class HistoryEdgesTest {
    private static final String LINE = """
        fixes 0,0 0,300 0,600 0,900 500,500
        "IF A;TF B;TF C;TF D"
        load() = 4; execute() = 4
        """;

    public static void main(String[] args) {
        emptyHistory();
        upToSixStates();
        moreThanSixStates();
        overAndOver();
        eachEditIsRecorded();
        refusedEditsAreNotRecorded();
        fullPlansAreRestored();
        currentLegIsRestored();
        executing();
        cancelling();
        progressAtFirst();
        progressAfterExecute();
        restartingEdits();
        undoneRestarts();
        cutToTheLeg();
        Script.end();
    }

    private static void emptyHistory() {
        Script.run("BAD_STATE if it is empty", """
            undo() = BAD_STATE
            fixes 0,0
            "IF A"
            undo() = BAD_STATE; load() = 1; undo() = 0; undo() = BAD_STATE; legCount(1) = BAD_INDEX; load() = 1; cancel() = 0
            undo() = BAD_STATE; load() = 1; execute() = 1; undo() = BAD_STATE; legCount(0) = 1
            """);
    }

    private static void upToSixStates() {
        Script.run("A history of at most 6 states is kept: six edits, the first of which made the modified plan", LINE + """
            setSpeedLimit(1, 101) = 999; setSpeedLimit(1, 102) = 101; setSpeedLimit(1, 103) = 102; setSpeedLimit(1, 104) = 103
            setSpeedLimit(1, 105) = 104; setSpeedLimit(1, 106) = 105; undo() = 5; legTime(1, 1) = 1028; undo() = 4; legTime(1, 1) = 1038
            undo() = 3; legTime(1, 1) = 1048; undo() = 2; legTime(1, 1) = 1058; undo() = 1; legTime(1, 1) = 1069; undo() = 0
            legCount(1) = BAD_INDEX; undo() = BAD_STATE; legTime(0, 1) = 270
            """);
    }

    private static void moreThanSixStates() {
        Script.run("when one more is recorded, the oldest one is dropped", LINE + """
            setSpeedLimit(1, 101) = 999; setSpeedLimit(1, 102) = 101; setSpeedLimit(1, 103) = 102; setSpeedLimit(1, 104) = 103
            setSpeedLimit(1, 105) = 104; setSpeedLimit(1, 106) = 105; setSpeedLimit(1, 107) = 106; undo() = 5; undo() = 4; undo() = 3
            undo() = 2; undo() = 1; undo() = 0; legCount(1) = 4; legTime(1, 1) = 1069; undo() = BAD_STATE; legCount(1) = 4
            setSpeedLimit(1, 200) = 101; undo() = 0; undo() = BAD_STATE; setSpeedLimit(1, 200) = 101
            """);
        Script.run("twelve and thirteen edits", LINE + """
            setSpeedLimit(1, 101) = 999; setSpeedLimit(1, 102) = 101; setSpeedLimit(1, 103) = 102; setSpeedLimit(1, 104) = 103
            setSpeedLimit(1, 105) = 104; setSpeedLimit(1, 106) = 105; setSpeedLimit(1, 107) = 106; setSpeedLimit(1, 108) = 107
            setSpeedLimit(1, 109) = 108; setSpeedLimit(1, 110) = 109; setSpeedLimit(1, 111) = 110; setSpeedLimit(1, 112) = 111
            setSpeedLimit(1, 113) = 112; undo() = 5; legTime(1, 1) = 964; undo() = 4; legTime(1, 1) = 972; undo() = 3; undo() = 2
            undo() = 1; undo() = 0; legTime(1, 1) = 1009; undo() = BAD_STATE; setSpeedLimit(1, 300) = 107
            """);
    }

    private static void overAndOver() {
        Script.run("undo() restores the latest one and removes it: edits and undos in turn", LINE + """
            setSpeedLimit(1, 101) = 999; setSpeedLimit(1, 102) = 101; setSpeedLimit(1, 103) = 102; setSpeedLimit(1, 104) = 103
            undo() = 3; undo() = 2; setSpeedLimit(1, 105) = 102; setSpeedLimit(1, 106) = 105; setSpeedLimit(1, 107) = 106
            setSpeedLimit(1, 108) = 107; setSpeedLimit(1, 109) = 108; undo() = 5; undo() = 4; undo() = 3; undo() = 2; undo() = 1
            legTime(1, 1) = 1058; undo() = 0; legTime(1, 1) = 1069; undo() = BAD_STATE
            """);
        Script.run("the modified plan becomes as it was before that edit, or does not exist any more, if the edit made it", LINE + """
            delete(3) = 3; undo() = 0; legCount(1) = BAD_INDEX; delete(2) = 3; undo() = 0; legCount(1) = BAD_INDEX; fly(1) = 1
            delete(3) = 3; delete(2) = 2; undo() = 1; legCount(1) = 3; legFix(1, 2) = 2; fly(1) = BAD_STATE; undo() = 0; fly(1) = 1
            """);
    }

    private static void eachEditIsRecorded() {
        Script.run("each edit records the modified plan as it was before it", """
            fixes 0,0 0,300 0,600 300,600 0,900
            "IF A;TF B;TF C;TF D"
            load() = 4; execute() = 4; delete(1) = 3; closeGap(1) = 0; setWindow(2, 7, 7) = 0; setSpeedLimit(2, 200) = 999
            setFlyOver(1, true) = 0; directTo(2) = 2; undo() = 5; legCount(1) = 3; legKind(1, 0) = 0; turnKind(1, 2) = 2; undo() = 4
            turnKind(1, 2) = 1; legTime(1, 2) = 590; undo() = 3; legTime(1, 2) = 295; descentAltitude(1, 2) = 7; undo() = 2
            descentAltitude(1, 2) = 0; hasGap(1, 1) = 0; undo() = 1; hasGap(1, 1) = 1; legCount(1) = 3; undo() = 0
            legCount(1) = BAD_INDEX
            """);
        Script.run("each edit records: load and insert", LINE + """
            "TF E;VM 5"
            insert(2) = 6; load() = 2; insert(2) = 4; undo() = 2; legCount(1) = 2; undo() = 1; legCount(1) = 6; legFix(1, 2) = 4
            hasGap(1, 4) = 1; undo() = 0; legCount(1) = BAD_INDEX
            """);
        Script.run("an edit that changes no value is an edit, too", LINE + """
            setWindow(1, 0, 450) = 0; setSpeedLimit(1, 999) = 999; setFlyOver(1, false) = 0; load() = 4; load() = 4; undo() = 4; undo() = 3
            undo() = 2; undo() = 1; undo() = 0; legCount(1) = BAD_INDEX
            """);
    }

    private static void refusedEditsAreNotRecorded() {
        Script.run("The edits are the calls .. that return no error", LINE + """
            insert(9) = BAD_INDEX; delete(4) = BAD_INDEX; closeGap(1) = BAD_STATE; setWindow(1, 5, 4) = BAD_VALUE
            setSpeedLimit(1, 99) = BAD_VALUE; setFlyOver(4, true) = BAD_INDEX; directTo(4) = BAD_INDEX; undo() = BAD_STATE
            legCount(1) = BAD_INDEX; setFlyOver(1, true) = 0; insert(0) = BAD_STATE; delete(0) = BAD_STATE; closeGap(1) = BAD_STATE
            setWindow(1, 5, 4) = BAD_VALUE; setSpeedLimit(1, 99) = BAD_VALUE; setFlyOver(4, true) = BAD_INDEX; directTo(4) = BAD_INDEX
            ""
            load() = BAD_STATE; insert(1) = BAD_STATE; undo() = 0; undo() = BAD_STATE
            """);
    }

    private static void fullPlansAreRestored() {
        Script.run("each of six states of 20 legs", """
            fixes 0,0 0,300 0,600
            "IF A;TF B;TF A;TF B;TF A;TF B;TF A;TF B;TF A;TF B"
            load() = 10
            "TF A;TF B;TF A;TF B;TF A;TF B;TF A;TF B;TF A;HF C 0 L 50 3"
            insert(10) = 20; execute() = 20; setSpeedLimit(19, 101) = 999; setSpeedLimit(19, 102) = 101; setSpeedLimit(19, 103) = 102
            setSpeedLimit(19, 104) = 103; setSpeedLimit(19, 105) = 104; setSpeedLimit(19, 106) = 105
            "VM 5"
            load() = 1; undo() = 5; legCount(1) = 20; legKind(1, 19) = 7; legFix(1, 19) = 2; legFix(1, 18) = 0; legFix(1, 1) = 1
            holdEntry(1, 19) = 0; undo() = 4; undo() = 3; undo() = 2; undo() = 1; undo() = 0; legCount(1) = 20; legKind(1, 19) = 7
            legFix(1, 18) = 0; setSpeedLimit(19, 300) = 101; undo() = 0; undo() = BAD_STATE
            """);
    }

    private static void currentLegIsRestored() {
        Script.run("undo restores the current leg of the modified plan", LINE + """
            fly(350) = 350; currentLeg() = 2; delete(2) = BAD_STATE; load() = 4; delete(1) = 3; undo() = 1; undo() = 0
            delete(2) = BAD_STATE; setFlyOver(3, true) = 0; load() = 4; setFlyOver(0, true) = 0; undo() = 2; undo() = 1
            setFlyOver(1, true) = BAD_STATE; setFlyOver(2, true) = 0; directTo(3) = 2; setFlyOver(0, true) = 0; undo() = 3; undo() = 2
            setFlyOver(1, true) = BAD_STATE; execute() = 4; currentLeg() = 2; flownLength() = 50
            """);
    }

    private static void executing() {
        Script.run("Makes the modified plan the active plan; there is no modified plan then, and the history is empty", """
            execute() = BAD_STATE
            fixes 0,0 0,300
            "IF A;TF B"
            execute() = BAD_STATE; load() = 2; setFlyOver(1, true) = 0; execute() = 2; legCount(0) = 2; legCount(1) = BAD_INDEX
            undo() = BAD_STATE; execute() = BAD_STATE; cancel() = BAD_STATE; setFlyOver(1, true) = 1; undo() = 0; execute() = BAD_STATE
            """);
        Script.run("Returns the number of legs, of 1 and of 20", """
            fixes 0,0 0,300
            "IF A"
            load() = 1; execute() = 1
            "TF B;TF A;TF B;TF A;TF B;TF A;TF B;TF A;TF B;TF A;TF B;TF A"
            insert(1) = 13; execute() = 13
            "TF B;TF A;TF B;TF A;TF B;TF A;TF B"
            insert(13) = 20; execute() = 20; legCount(0) = 20; legFix(0, 19) = 1
            """);
    }

    private static void cancelling() {
        Script.run("Drops the modified plan; the history is empty then. Returns the number of legs of the active plan", """
            cancel() = BAD_STATE
            fixes 0,0 0,300
            "IF A;TF B"
            load() = 2; load() = 2; cancel() = 0; undo() = BAD_STATE; legCount(1) = BAD_INDEX; cancel() = BAD_STATE; execute() = BAD_STATE
            load() = 2; execute() = 2; cancel() = BAD_STATE; delete(1) = 1; cancel() = 2; legCount(0) = 2; undo() = BAD_STATE
            delete(1) = 1; undo() = 0; cancel() = BAD_STATE
            """);
        Script.run("cancel() leaves the progress", LINE + """
            fly(350) = 350; load() = 4; cancel() = 4; currentLeg() = 2; flownLength() = 50; directTo(3) = 2; cancel() = 4
            flownLength() = 50; setFlyOver(2, true) = 0; execute() = 4; currentLeg() = 2; flownLength() = 50
            """);
    }

    private static void progressAtFirst() {
        Script.run("It is leg 0 and length 0 at first", """
            fixes 0,0
            "HF A 0 L 10 1"
            load() = 1; execute() = 1; currentLeg() = 0; flownLength() = 0
            """);
    }

    private static void progressAfterExecute() {
        Script.run("The modified plan has the same current leg as the active plan when it is made as a copy", LINE + """
            fly(300) = 300; currentLeg() = 2; setFlyOver(1, true) = BAD_STATE; setFlyOver(2, true) = 0; setFlyOver(1, true) = BAD_STATE
            execute() = 4; currentLeg() = 2; flownLength() = 0; fly(299) = 299; delete(3) = 3; execute() = 3; currentLeg() = 2
            flownLength() = 299; fly(1) = 1; currentLeg() = 2; flownLength() = 300; fly(1) = 0
            """);
        String[] edits = {"insert(4) = 5", "delete(3) = 3", "setWindow(3, 0, 5) = 0", "setSpeedLimit(3, 200) = 999",
            "setFlyOver(3, true) = 0", "setWindow(2, 0, 450) = 0; closeGap(3) = 0"};
        for (String edit : edits) {
            String gap = edit.contains("closeGap") ? "" : "closeGap(3) = 0; ";
            Script.run("the length flown stays as it is: " + edit, """
                fixes 0,0 0,300 0,600 0,900 0,1200
                "IF A;TF B;TF C;TF E;TF D"
                load() = 5; delete(3) = 4; GAPexecute() = 4; fly(350) = 350
                "TF E"
                EDIT; execute() = LEGS; currentLeg() = 2; flownLength() = 50; positionY() = 350
                """.replace("GAP", gap).replace("EDIT", edit)
                .replace("LEGS", edit.startsWith("insert") ? "5" : edit.startsWith("delete") ? "3" : "4"));
        }
    }

    private static void restartingEdits() {
        Script.run("but becomes 0 if load or directTo is among the edits that made the modified plan: load", """
            fixes 0,0 0,300
            "HF A 0 L 50 9;TF B"
            load() = 2; execute() = 2; fly(500) = 500; flownLength() = 500; setFlyOver(1, true) = 0; load() = 2
            setSpeedLimit(1, 200) = 999; flownLength() = 500; execute() = 2; currentLeg() = 0; flownLength() = 0
            """);
        // The PP leg has no length: its flown length would be cut to 0 anyway, but not that of the pattern behind it, once it is flown.
        Script.run("but becomes 0 if load or directTo is among the edits that made the modified plan: directTo", """
            fixes 0,0 0,300
            "HF A 0 L 50 9;TF B"
            load() = 2; execute() = 2; fly(500) = 500; directTo(0) = 3; execute() = 3; currentLeg() = 0; flownLength() = 0; fly(10) = 10
            currentLeg() = 1; flownLength() = 10
            """);
        Script.run("load is among the edits, even if it is not in the history any more", """
            fixes 0,0 0,300
            "HF A 0 L 50 9;TF B"
            load() = 2; execute() = 2; fly(500) = 500; load() = 2; setFlyOver(1, true) = 0; setFlyOver(1, true) = 1
            setFlyOver(1, true) = 1; setFlyOver(1, true) = 1; setFlyOver(1, true) = 1; setFlyOver(1, true) = 1; setFlyOver(1, true) = 1
            undo() = 5; undo() = 4; undo() = 3; undo() = 2; undo() = 1; undo() = 0; execute() = 2; flownLength() = 0
            """);
    }

    private static void undoneRestarts() {
        Script.run("an edit that was undone is not among them", """
            fixes 0,0 0,300
            "HF A 0 L 50 9;TF B"
            load() = 2; execute() = 2; fly(500) = 500; setFlyOver(1, true) = 0; load() = 2; undo() = 1; execute() = 2; flownLength() = 500
            setFlyOver(1, true) = 1; directTo(0) = 3; undo() = 1; execute() = 2; flownLength() = 500; load() = 2; undo() = 0
            setFlyOver(1, true) = 1; execute() = 2; flownLength() = 500; load() = 2; cancel() = 2; setFlyOver(1, true) = 1
            execute() = 2; flownLength() = 500; load() = 2; load() = 2; undo() = 1; execute() = 2; flownLength() = 0
            """);
    }

    private static void cutToTheLeg() {
        // The turn at B is flown by with the lead 50, so the leg to B is 250 long, and 300 if it is flown over.
        Script.run("Whenever the path of the active plan changes .., the length flown becomes at most the length of the current leg", """
            fixes 0,0 0,300 300,300
            "IF A;TF B O;TF C"
            load() = 3; execute() = 3; fly(249) = 249; setFlyOver(1, false) = 1; execute() = 3; flownLength() = 249; legLength(0, 1) = 250
            setFlyOver(1, true) = 0; execute() = 3; fly(1) = 1; setFlyOver(1, false) = 1; execute() = 3; flownLength() = 250
            setFlyOver(1, true) = 0; execute() = 3; flownLength() = 250; fly(1) = 1; setFlyOver(1, false) = 1; flownLength() = 251
            execute() = 3; flownLength() = 250; currentLeg() = 1; setFlyOver(1, true) = 0; execute() = 3; flownLength() = 250
            """);
        // With the speed 440 the radius is 60, with a wind of 99 from behind the leg it is 77 (499 * 499 / 3200).
        Script.run("by a setting, at once, and while there is a modified plan", """
            fixes 0,0 0,300 300,300
            "IF A;TF B;TF C"
            load() = 3; execute() = 3; fly(245) = 245; setCruise(300, 410) = 300; legLength(0, 1) = 248; flownLength() = 245
            setCruise(300, 440) = 300; legLength(0, 1) = 240; flownLength() = 240; setCruise(300, 400) = 300; flownLength() = 240
            setFlyOver(1, true) = 0; setWind(0, 99) = 1; flownLength() = 223; setWind(0, 0) = 1; flownLength() = 223; cancel() = 3
            flownLength() = 223
            """);
        // The CA leg to 300 is 1000 long with the gradient 300 and the departure altitude 0, 500 with 600, and 900 from 30.
        Script.run("by the gradients and the ends", """
            fixes 0,0
            "IF A;CA 6 300"
            load() = 2; execute() = 2; fly(950) = 950; setEnds(30, 0) = 0; flownLength() = 900; setEnds(0, 0) = 30; flownLength() = 900
            setGradients(600, 318, 500) = 300; flownLength() = 500; setGradients(300, 318, 500) = 600; flownLength() = 500
            legLength(0, 1) = 1000
            """);
    }
}
