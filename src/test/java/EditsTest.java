/** Promises 10 to 20: the edits, undo, execute and cancel. */
public final class EditsTest {
    public static void main(String[] args) {
        loading();
        inserting();
        insertingUpToAFix();
        insertingIntoAFullPlan();
        deleting();
        closingGaps();
        settingWindows();
        settingSpeedLimits();
        settingFlyOver();
        goingDirect();
        goingDirectInFullPlan();
        undoing();
        executing();
        cancelling();
        Script.end();
    }

    private static void loading() {
        Script.run("promise 10", """
            fixes 0,0 0,300 0,600
            load() = BAD_STATE; legCount(1) = BAD_INDEX
            "IF A;TF B"
            load() = 2; legCount(0) = 0; legCount(1) = 2; legKind(1, 1) = 1; clearText() = 9; load() = BAD_STATE; legCount(1) = 2
            "IF A;TF B;DF C"
            load() = 3; legCount(1) = 3; legFix(1, 2) = 2; legKind(1, 2) = 2; load() = 3; execute() = 3
            """);
        Script.run("load has no gap marks and starts at leg 0", """
            fixes 0,0 0,300 0,600
            "IF A;TF B;TF C"
            load() = 3; delete(1) = 2; hasGap(1, 1) = 1; load() = 3; hasGap(1, 1) = 0; gapCount(1) = 0; execute() = 3; fly(400) = 400
            currentLeg() = 2; delete(1) = BAD_STATE; load() = 3; delete(1) = 2; undo() = 1; undo() = 0; delete(1) = BAD_STATE
            """);
    }

    private static void inserting() {
        Script.run("promise 11", """
            fixes 0,0 0,300 0,600 0,900
            "IF A;TF B"
            insert(1) = BAD_INDEX; insert(-1) = BAD_INDEX; insert(0) = 2; legCount(0) = 0; legCount(1) = 2; execute() = 2
            "TF C;VM 3"
            insert(3) = BAD_INDEX; insert(0) = BAD_STATE; insert(2) = 4; hasGap(1, 2) = 0; legKind(1, 3) = 6; gapCount(1) = 0
            insert(1) = 6; legFix(1, 1) = 2; legKind(1, 2) = 6; legFix(1, 3) = 1; closeGap(3) = 1; hasGap(1, 3) = 1
            "TF C;"
            insert(7) = BAD_INDEX; insert(1) = BAD_STATE; legCount(1) = 6
            """);
        Script.run("a plan of one leg", """
            fixes 0,0 0,300
            "HF A 0 R 50 1"
            insert(0) = 1; insert(0) = BAD_STATE; execute() = 1; flownLength() = 0; insert(0) = BAD_STATE; insert(1) = 2
            """);
        Script.run("the leg behind gets a gap mark", """
            fixes 0,0 0,300 0,600 300,300
            "IF A;TF B;TF C"
            load() = 3
            "TF D"
            insert(1) = 4; legFix(1, 1) = 3; legFix(1, 2) = 1; hasGap(1, 1) = 0; hasGap(1, 2) = 1; hasGap(1, 3) = 0
            closeGap(2) = 0; insert(4) = 5; gapCount(1) = 0; legFix(1, 4) = 3
            """);
        Script.run("not before the current leg of the modified plan", """
            fixes 0,0 0,300 0,600 300,300
            "IF A;TF B;TF C"
            load() = 3; execute() = 3; fly(10) = 10; currentLeg() = 1
            "TF D"
            insert(0) = BAD_STATE; insert(1) = BAD_STATE; legCount(1) = BAD_INDEX; insert(2) = 4; execute() = 4; currentLeg() = 1
            flownLength() = 10
            """);
    }

    private static void insertingUpToAFix() {
        Script.run("legs up to the fix are removed", """
            fixes 0,0 0,300 0,600 300,300
            "IF A;TF B;TF C;TF D;TF B"
            load() = 5
            "TF D;DF C"
            insert(1) = 5; legFix(1, 1) = 3; legFix(1, 2) = 2; legKind(1, 2) = 2; legFix(1, 3) = 3; legFix(1, 4) = 1
            gapCount(1) = 0
            "TF B"
            insert(1) = 2; legFix(1, 0) = 0; legFix(1, 1) = 1; legKind(1, 1) = 1; gapCount(1) = 0; insert(1) = 2
            "TF A"
            insert(1) = 3; hasGap(1, 2) = 1; legFix(1, 1) = 0
            """);
        Script.run("the first such leg from index on, of any kind with a fix", """
            fixes 0,0 0,300 0,600
            "IF A;HF B 0 R 50 1;CF B 0;TF C"
            load() = 4
            "DF B"
            insert(1) = 4; legKind(1, 1) = 2; legKind(1, 2) = 3; insert(2) = 4; legKind(1, 2) = 2; legKind(1, 3) = 1
            insert(4) = 5; gapCount(1) = 0
            """);
        Script.run("a gap mark behind the removed legs stays", """
            fixes 0,0 0,300 0,600 300,300
            "IF A;TF B;TF C;TF D"
            load() = 4; delete(2) = 3; hasGap(1, 2) = 1
            "TF C;TF B"
            insert(1) = 4; hasGap(1, 1) = 0; hasGap(1, 3) = 1; legFix(1, 3) = 3
            """);
        Script.run("a last leg without a fix removes none", """
            fixes 0,0 0,300
            "IF A;VM 3;TF B"
            load() = 3
            "CI 5"
            insert(1) = 4; legKind(1, 1) = 5; legKind(1, 2) = 6; hasGap(1, 2) = 1
            """);
    }

    private static void insertingIntoAFullPlan() {
        Script.run("more than 20 legs", """
            fixes 0,0 0,300 0,600
            "IF A;TF B;TF A;TF B;TF A;TF B;TF A;TF B;TF A;TF B"
            load() = 10
            "TF B;TF A;TF B;TF A;TF B;TF A;TF B;TF A;TF B;TF A"
            insert(10) = 20; insert(20) = FULL; insert(21) = BAD_INDEX; insert(0) = BAD_STATE; legCount(1) = 20
            "TF C"
            insert(20) = FULL; insert(1) = FULL; undo() = 1; legCount(1) = 10
            "TF C;TF C;TF C;TF C;TF C;TF C;TF C;TF C;TF C;TF C"
            insert(1) = 20; hasGap(1, 11) = 1; legFix(1, 19) = 1
            "VM 0;TF B"
            insert(11) = FULL; insert(12) = 20; insert(20) = FULL
            "TF B;TF A"
            insert(18) = FULL; insert(17) = 20; legFix(1, 17) = 1; legFix(1, 18) = 0; legFix(1, 19) = 1; delete(19) = 19
            insert(18) = 20; legFix(1, 18) = 1; legFix(1, 19) = 0; gapCount(1) = 2
            """);
    }

    private static void deleting() {
        Script.run("promise 12", """
            fixes 0,0 0,300 0,600 0,900
            delete(0) = BAD_INDEX
            "IF A;TF B;TF C;TF D"
            load() = 4; execute() = 4; delete(-1) = BAD_INDEX; delete(4) = BAD_INDEX; delete(0) = BAD_STATE; legCount(1) = BAD_INDEX
            delete(1) = 3; legFix(1, 1) = 2; hasGap(1, 1) = 1; hasGap(1, 2) = 0; legCount(0) = 4; delete(2) = 2; gapCount(1) = 1
            delete(1) = 1; gapCount(1) = 0; delete(0) = BAD_STATE; undo() = 2; legFix(1, 1) = 2
            """);
        Script.run("behind the current leg only", """
            fixes 0,0 0,300 0,600 0,900
            "IF A;TF B;TF C;TF D"
            load() = 4; execute() = 4; fly(310) = 310; currentLeg() = 2; delete(1) = BAD_STATE; delete(2) = BAD_STATE; delete(3) = 3
            """);
    }

    private static void closingGaps() {
        Script.run("promise 13", """
            fixes 0,0 0,300 0,600 0,900
            closeGap(0) = BAD_INDEX
            "IF A;TF B;TF C;IF D;TF C;VM 2;TF A"
            load() = 7; gapCount(1) = 2; closeGap(7) = BAD_INDEX; closeGap(-1) = BAD_INDEX; closeGap(3) = BAD_STATE
            closeGap(6) = BAD_STATE; closeGap(1) = BAD_STATE; delete(1) = 6; hasGap(1, 1) = 1; gapCount(1) = 3; closeGap(1) = 2
            hasGap(1, 1) = 0; closeGap(1) = BAD_STATE; delete(1) = 5; hasGap(1, 1) = 1; gapCount(1) = 2; closeGap(1) = 2
            hasGap(1, 1) = 1; closeGap(1) = BAD_STATE
            """);
        Script.run("not at or before the current leg", """
            fixes 0,0 0,300 0,600 0,900
            "IF A;TF B;TF C;TF D"
            load() = 4; delete(1) = 3; delete(2) = 2; execute() = 2; resume() = 1; closeGap(1) = BAD_STATE; legCount(1) = BAD_INDEX
            closeGap(0) = BAD_STATE
            """);
    }

    private static void settingWindows() {
        Script.run("promise 14", """
            fixes 0,0 0,300 0,600
            setWindow(0, 0, 0) = BAD_INDEX
            "IF A;TF B;TF C"
            load() = 3; execute() = 3; setWindow(3, 0, 10) = BAD_INDEX; setWindow(-1, 0, 10) = BAD_INDEX
            setWindow(3, -1, 10) = BAD_INDEX; setWindow(1, -1, 10) = BAD_VALUE; setWindow(1, 451, 451) = BAD_VALUE
            setWindow(1, 10, 9) = BAD_VALUE; setWindow(1, 0, 451) = BAD_VALUE; setWindow(1, 0, -1) = BAD_VALUE
            legCount(1) = BAD_INDEX; setWindow(1, 90, 90) = 0; setWindow(1, 91, 450) = 1; setWindow(2, 450, 450) = 2
            climbAltitude(1, 2) = 180; setWindow(1, 0, 0) = 1; climbAltitude(1, 1) = 0; setWindow(0, 5, 5) = 2
            violation(1, 0) = 1; violation(1, 1) = 0; setWindow(0, 0, 450) = 1; violationCount(1) = 1; violationCount(0) = 0
            """);
        Script.run("the current leg, but none before it", """
            fixes 0,0 0,300 0,600
            "IF A;TF B;TF C"
            load() = 3; execute() = 3; fly(1) = 1; setWindow(0, 0, 450) = BAD_STATE; setWindow(0, 1, 0) = BAD_VALUE
            legCount(1) = BAD_INDEX; setWindow(1, 0, 100) = 0; legCount(1) = 3
            """);
    }

    private static void settingSpeedLimits() {
        Script.run("promise 15", """
            fixes 0,0 0,300 300,300
            setSpeedLimit(0, 100) = BAD_INDEX
            "IF A;TF B S 250;TF C"
            load() = 3; execute() = 3; setSpeedLimit(3, 100) = BAD_INDEX; setSpeedLimit(-1, 100) = BAD_INDEX
            setSpeedLimit(3, 99) = BAD_INDEX; setSpeedLimit(1, 99) = BAD_VALUE; setSpeedLimit(1, 501) = BAD_VALUE
            setSpeedLimit(1, 998) = BAD_VALUE; setSpeedLimit(1, 1000) = BAD_VALUE; setSpeedLimit(1, 0) = BAD_VALUE
            legCount(1) = BAD_INDEX; setSpeedLimit(1, 100) = 250; setSpeedLimit(1, 500) = 100; setSpeedLimit(1, 999) = 500
            setSpeedLimit(1, 200) = 999; turnRadius(1, 2) = 50; setSpeedLimit(2, 200) = 999; turnRadius(1, 2) = 12
            legTime(0, 1) = 360; turnRadius(0, 2) = 50
            """);
        Script.run("the current leg, but none before it", """
            fixes 0,0 0,300 300,300
            "IF A;TF B;TF C"
            load() = 3; execute() = 3; fly(1) = 1; setSpeedLimit(0, 200) = BAD_STATE; setSpeedLimit(0, 99) = BAD_VALUE
            legCount(1) = BAD_INDEX; setSpeedLimit(1, 200) = 999; legCount(1) = 3
            """);
    }

    private static void settingFlyOver() {
        Script.run("promise 16", """
            fixes 0,0 0,300 300,300
            setFlyOver(0, true) = BAD_INDEX
            "IF A;TF B;TF C O"
            load() = 3; execute() = 3; setFlyOver(3, true) = BAD_INDEX; setFlyOver(-1, true) = BAD_INDEX; legCount(1) = BAD_INDEX
            setFlyOver(1, true) = 0; turnKind(1, 2) = 2; turnKind(0, 2) = 1; setFlyOver(1, true) = 1; setFlyOver(1, false) = 1
            setFlyOver(1, false) = 0; turnKind(1, 2) = 1; setFlyOver(2, false) = 1; setFlyOver(2, true) = 0
            """);
        Script.run("the current leg, but none before it", """
            fixes 0,0 0,300 300,300
            "IF A;TF B;TF C"
            load() = 3; execute() = 3; fly(1) = 1; setFlyOver(0, true) = BAD_STATE; legCount(1) = BAD_INDEX; setFlyOver(1, true) = 0
            """);
    }

    private static void goingDirect() {
        Script.run("promise 17", """
            fixes 0,0 0,300 300,300 600,300
            directTo(0) = BAD_INDEX
            "IF A;TF B;TF C B 5 90 S 300 O;CF D 6"
            load() = 4; directTo(2) = BAD_STATE; directTo(4) = BAD_INDEX; execute() = 4; fly(100) = 100; directTo(-1) = BAD_INDEX
            directTo(4) = BAD_INDEX; directTo(0) = BAD_STATE; legCount(1) = BAD_INDEX; directTo(2) = 3; legKind(1, 0) = 8
            legFix(1, 0) = NONE; endX(1, 0) = 0; endY(1, 0) = 100; legKind(1, 1) = 2; legFix(1, 1) = 2; legKind(1, 2) = 3
            setSpeedLimit(1, 999) = 300; setFlyOver(1, false) = 1; climbAltitude(1, 1) = 90; turnKind(1, 1) = 2; turnSteps(1, 1) = 4
            setSpeedLimit(0, 100) = 999; setFlyOver(0, true) = 0; hasGap(1, 0) = 0; currentLeg() = 1; execute() = 3; currentLeg() = 0
            flownLength() = 0; positionX() = 0; positionY() = 100; presentCourse() = 0; directTo(0) = BAD_STATE; directTo(1) = 3
            """);
        Script.run("a gap mark and a kind are replaced, but an HF leg stays", """
            fixes 0,0 0,300 300,300
            "IF A;TF B;TF C;HF C 6 L 50 1;CF A 3"
            load() = 5; delete(1) = 4; delete(2) = 3; execute() = 3; hasGap(0, 1) = 1; hasGap(0, 2) = 1; directTo(1) = 3
            hasGap(1, 1) = 0; legKind(1, 1) = 2; hasGap(1, 2) = 1; undo() = 0; directTo(2) = 2; legKind(1, 1) = 2
            hasGap(1, 1) = 0; legLength(1, 1) = 0
            """);
        Script.run("an HF leg stays", """
            fixes 0,0 0,300 300,300
            "IF A;TF B;HF C 6 L 50 1"
            load() = 3; execute() = 3; directTo(2) = 2; legKind(1, 1) = 7; holdEntry(1, 1) = 0; directTo(1) = 2; legKind(1, 1) = 7
            """);
        Script.run("no fix", """
            fixes 0,0
            "IF A;CA 6 50;CI 3;VM 3"
            load() = 4; execute() = 4; directTo(1) = BAD_STATE; directTo(2) = BAD_STATE; directTo(3) = BAD_STATE; directTo(0) = 5
            legKind(1, 1) = 2; directTo(0) = BAD_STATE; directTo(1) = 5
            """);
        Script.run("no present position", """
            fixes 0,0 0,300
            "CA 6 50;TF B"
            load() = 2; directTo(1) = BAD_STATE; execute() = 2; directTo(1) = BAD_STATE; directTo(0) = BAD_STATE; resume() = 1
            directTo(1) = 2; endY(1, 0) = 300
            """);
        Script.run("the current leg is that of the modified plan", """
            fixes 0,0 0,300 300,300
            "IF A;TF B;TF C"
            load() = 3; execute() = 3; fly(400) = 400; currentLeg() = 2; directTo(1) = BAD_STATE; load() = 3; directTo(1) = 3
            endX(1, 0) = 122; endY(1, 0) = 300
            """);
    }

    private static void goingDirectInFullPlan() {
        Script.run("direct to leg 0 of 20", """
            fixes 0,0 0,300
            "IF A;TF B;TF A;TF B;TF A;TF B;TF A;TF B;TF A;TF B"
            load() = 10
            "TF A;TF B;TF A;TF B;TF A;TF B;TF A;TF B;TF A;TF B"
            insert(10) = 20; execute() = 20; directTo(0) = FULL; directSaving(0) = 0; legCount(1) = BAD_INDEX; directTo(1) = 20
            legCount(0) = 20
            """);
    }

    private static void undoing() {
        Script.run("promise 18", """
            fixes 0,0 0,300 300,300
            undo() = BAD_STATE
            "IF A;TF B;TF C"
            load() = 3; undo() = 0; legCount(1) = BAD_INDEX; undo() = BAD_STATE; load() = 3; execute() = 3; undo() = BAD_STATE
            setFlyOver(1, true) = 0; setSpeedLimit(1, 200) = 999; setWindow(1, 1, 2) = 0; delete(1) = 2; closeGap(1) = 0; undo() = 4
            hasGap(1, 1) = 1; undo() = 3; legCount(1) = 3; climbAltitude(1, 1) = 2; undo() = 2; climbAltitude(1, 1) = 90; undo() = 1
            turnKind(1, 2) = 2; undo() = 0; legCount(1) = BAD_INDEX; fly(5) = 5
            """);
        Script.run("six states at most", """
            fixes 0,0 0,300
            "IF A;TF B"
            load() = 2; setSpeedLimit(1, 101) = 999; setSpeedLimit(1, 102) = 101; setSpeedLimit(1, 103) = 102
            setSpeedLimit(1, 104) = 103; setSpeedLimit(1, 105) = 104; setSpeedLimit(1, 106) = 105; setSpeedLimit(1, 107) = 106
            undo() = 5; undo() = 4; undo() = 3; undo() = 2; undo() = 1; undo() = 0; undo() = BAD_STATE; legCount(1) = 2
            setSpeedLimit(1, 200) = 101; undo() = 0; setSpeedLimit(1, 200) = 101; cancel() = 0; undo() = BAD_STATE
            """);
        Script.run("a refused edit records nothing", """
            fixes 0,0 0,300
            "IF A;TF B"
            load() = 2; setSpeedLimit(1, 99) = BAD_VALUE; setWindow(1, 2, 1) = BAD_VALUE; delete(0) = BAD_STATE
            insert(0) = BAD_STATE; closeGap(1) = BAD_STATE; directTo(1) = BAD_STATE; setFlyOver(2, true) = BAD_INDEX; undo() = 0
            """);
    }

    private static void executing() {
        Script.run("promise 19", """
            fixes 0,0 0,300 300,300
            execute() = BAD_STATE
            "IF A;TF B;TF C"
            load() = 3; execute() = 3; legCount(0) = 3; legCount(1) = BAD_INDEX; undo() = BAD_STATE; execute() = BAD_STATE
            fly(100) = 100; flownLength() = 100; setSpeedLimit(2, 200) = 999; execute() = 3; currentLeg() = 1; flownLength() = 100
            load() = 3; undo() = 0; setSpeedLimit(2, 250) = 200; load() = 3; undo() = 1; execute() = 3; currentLeg() = 1
            flownLength() = 100; load() = 3; setSpeedLimit(2, 260) = 999; execute() = 3; currentLeg() = 0; flownLength() = 0
            """);
        Script.run("the flown length is cut to the leg", """
            fixes 0,0 0,300 300,300
            "IF A;TF B O;TF C"
            load() = 3; execute() = 3; fly(290) = 290; flownLength() = 290; setFlyOver(1, false) = 1; execute() = 3
            currentLeg() = 1; legLength(0, 1) = 250; flownLength() = 250; positionY() = 250
            """);
        Script.run("load makes the flown length 0 on a leg 0 that is long", """
            fixes 0,0 0,300
            "HF A 0 R 50 9"
            load() = 1; execute() = 1; fly(100) = 100; flownLength() = 100; load() = 1; execute() = 1; flownLength() = 0; fly(70) = 70
            load() = 1; undo() = 0; setFlyOver(0, true) = 0; execute() = 1; flownLength() = 70; directTo(0) = 2; execute() = 2
            flownLength() = 0
            """);
        Script.run("load before six other edits still counts", """
            fixes 0,0
            "HF A 0 R 50 9"
            load() = 1; execute() = 1; fly(100) = 100; load() = 1; setFlyOver(0, true) = 0; setFlyOver(0, true) = 1
            setFlyOver(0, true) = 1; setFlyOver(0, true) = 1; setFlyOver(0, true) = 1; setFlyOver(0, true) = 1
            setFlyOver(0, true) = 1; undo() = 5; execute() = 1; flownLength() = 0
            """);
    }

    private static void cancelling() {
        Script.run("promise 20", """
            fixes 0,0 0,300 300,300
            cancel() = BAD_STATE
            "IF A;TF B;TF C"
            load() = 3; cancel() = 0; legCount(1) = BAD_INDEX; undo() = BAD_STATE; cancel() = BAD_STATE; load() = 3; execute() = 3
            fly(20) = 20; delete(2) = 2; fly(1) = BAD_STATE; cancel() = 3; legCount(0) = 3; flownLength() = 20; fly(1) = 1
            undo() = BAD_STATE
            """);
    }
}
