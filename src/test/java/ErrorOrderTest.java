/** If several errors apply to a call, the first one in the order BAD_INDEX, BAD_VALUE, BAD_STATE, FULL is returned. */
public final class ErrorOrderTest {
    private static final String ORDER = "If several apply to a call, the first one in this order is returned: ";
    private static final String LINE = """
        fixes 0,0 0,300 0,600
        "IF A;TF B;TF C"
        load() = 3; execute() = 3
        """;
    private static final String TWENTY = """
        fixes 0,0 0,300
        "IF A;TF B;TF A;TF B;TF A;TF B;TF A;TF B;TF A;TF B"
        load() = 10
        "TF A;TF B;TF A;TF B;TF A;TF B;TF A;TF B;TF A;TF B"
        insert(10) = 20; execute() = 20
        """;

    public static void main(String[] args) {
        indexBeforeValue();
        indexBeforeState();
        indexBeforeFull();
        valueBeforeState();
        valueBeforeFull();
        stateBeforeFull();
        errorsBeforeNone();
        Script.end();
    }

    private static void indexBeforeValue() {
        Script.run(ORDER + "BAD_INDEX before BAD_VALUE", LINE + """
            setWindow(3, -1, 450) = BAD_INDEX; setWindow(-1, 5, 4) = BAD_INDEX; setWindow(3, 0, 451) = BAD_INDEX
            setSpeedLimit(3, 99) = BAD_INDEX; setSpeedLimit(-1, 501) = BAD_INDEX; altitudeAt(0, 3, -1) = BAD_INDEX
            altitudeAt(1, 0, -1) = BAD_INDEX; altitudeAt(2, 0, 5000) = BAD_INDEX; altitudeAt(0, -1, 5000) = BAD_INDEX
            """);
        Script.run(ORDER + "BAD_INDEX before BAD_VALUE, without legs", """
            setWindow(0, -1, 450) = BAD_INDEX; setSpeedLimit(0, 99) = BAD_INDEX; altitudeAt(0, 0, -1) = BAD_INDEX
            """);
    }

    private static void indexBeforeState() {
        // The text is empty, and so has a fault; there is no present position while the active plan has no legs.
        Script.run(ORDER + "BAD_INDEX before BAD_STATE", """
            insert(-1) = BAD_INDEX; insert(1) = BAD_INDEX; insert(0) = BAD_STATE; delete(0) = BAD_INDEX; closeGap(0) = BAD_INDEX
            directTo(0) = BAD_INDEX; directSaving(0) = BAD_INDEX; setFlyOver(0, true) = BAD_INDEX
            fixes 0,0
            "VM 5"
            load() = 1; directTo(1) = BAD_INDEX; directTo(0) = BAD_STATE; directSaving(0) = BAD_INDEX; execute() = 1
            directSaving(1) = BAD_INDEX; directSaving(0) = BAD_STATE; clearText() = 4; insert(2) = BAD_INDEX; insert(-1) = BAD_INDEX
            insert(1) = BAD_STATE; insert(0) = BAD_STATE
            """);
    }

    private static void indexBeforeFull() {
        Script.run(ORDER + "BAD_INDEX before FULL", TWENTY + """
            "VM 5"
            insert(21) = BAD_INDEX; insert(-1) = BAD_INDEX; insert(20) = FULL; directTo(-1) = BAD_INDEX; directTo(20) = BAD_INDEX
            directTo(0) = FULL
            """);
    }

    private static void valueBeforeState() {
        Script.run(ORDER + "BAD_VALUE before BAD_STATE", LINE + """
            fly(300) = 300; currentLeg() = 2; setWindow(0, 5, 4) = BAD_VALUE; setWindow(0, -1, 450) = BAD_VALUE
            setWindow(1, 0, 451) = BAD_VALUE; setWindow(1, 0, 450) = BAD_STATE; setSpeedLimit(0, 99) = BAD_VALUE
            setSpeedLimit(1, 501) = BAD_VALUE; setSpeedLimit(1, 500) = BAD_STATE; setFlyOver(2, true) = 0; fly(2001) = BAD_VALUE
            fly(-1) = BAD_VALUE; fly(2000) = BAD_STATE; fly(0) = BAD_STATE
            """);
        Script.run(ORDER + "BAD_VALUE before BAD_STATE, without legs", """
            fly(2001) = BAD_VALUE; fly(-1) = BAD_VALUE; fly(2000) = BAD_STATE; fly(0) = BAD_STATE
            """);
    }

    private static void valueBeforeFull() {
        Script.run(ORDER + "BAD_VALUE before FULL: fixes", """
            fixes 0,0 0,0 0,0 0,0 0,0 0,0 0,0 0,0 0,0 0,0 0,0 0,0 0,0 0,0 0,0 0,0
            addFix(10000, 0) = BAD_VALUE; addFix(0, -10000) = BAD_VALUE; addFix(9999, -9999) = FULL
            """);
        StringBuilder blanks = new StringBuilder();
        for (int i = 1; i <= 200; i++) {
            blanks.append("type(32) = ").append(i).append("; ");
        }
        Script.run(ORDER + "BAD_VALUE before FULL: the text", blanks + """
            type(256) = BAD_VALUE; type(-1) = BAD_VALUE; type(255) = FULL; type(0) = FULL
            """);
    }

    private static void stateBeforeFull() {
        Script.run(ORDER + "BAD_STATE before FULL", TWENTY + """
            "VM 5;VM 5"
            insert(0) = BAD_STATE; insert(1) = FULL; fly(0) = 0; currentLeg() = 1; insert(1) = BAD_STATE; insert(2) = FULL
            directTo(0) = BAD_STATE; clearText() = 9; insert(2) = BAD_STATE; insert(20) = BAD_STATE
            """);
        Script.run(ORDER + "BAD_STATE before FULL: no present position, and no fix", """
            fixes 0,0 0,300
            "VM 5;TF B;TF A;TF B;TF A;TF B;TF A;TF B;TF A;TF B"
            load() = 10
            "TF A;TF B;TF A;TF B;TF A;TF B;TF A;TF B;TF A;TF B"
            insert(10) = 20; directTo(0) = BAD_STATE; execute() = 20; directTo(0) = BAD_STATE
            """);
    }

    private static void errorsBeforeNone() {
        Script.run("NONE is returned only if no error applies", """
            topOfDescent(0) = NONE; topOfDescent(1) = BAD_INDEX; legFix(0, 0) = BAD_INDEX; endX(1, 0) = BAD_INDEX
            holdEntry(0, 0) = BAD_INDEX; legCourse(0, 0) = BAD_INDEX
            "VM 5"
            load() = 1; topOfDescent(1) = NONE; legFix(1, 0) = NONE; legFix(1, 1) = BAD_INDEX; endX(1, 0) = NONE; endX(1, 1) = BAD_INDEX
            endY(1, 0) = NONE; endY(0, 0) = BAD_INDEX; holdEntry(1, 0) = NONE; holdEntry(1, -1) = BAD_INDEX; legCourse(1, 0) = NONE
            legCourse(1, 1) = BAD_INDEX; textFault() = NONE; currentLeg() = NONE; flownLength() = NONE; positionX() = NONE
            """);
    }
}
