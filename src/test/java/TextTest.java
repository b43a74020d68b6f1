/** Promises 1 to 4: a new object's text, type, clearText and textFault, with the grammar of legs. */
public final class TextTest {
    public static void main(String[] args) {
        typing();
        faultless();
        faults();
        tooManyLegs();
        attributesTakeEffect();
        Script.end();
    }

    private static void typing() {
        Script.run("promises 1 to 3", """
            clearText() = 0; textFault() = 0; load() = BAD_STATE
            type(-1) = BAD_VALUE; type(256) = BAD_VALUE; type(-2147483648) = BAD_VALUE; type(2147483647) = BAD_VALUE
            type(0) = 1; type(255) = 2; clearText() = 2; clearText() = 0; type(73) = 1
            """);
        FlightLegs full = new FlightLegs();
        for (int i = 1; i <= 200; i++) {
            Script.due("type(32)", full.type(32), i);
        }
        Script.due("type(32) in a full text", full.type(32), FlightLegs.FULL);
        Script.due("type(256) in a full text", full.type(256), FlightLegs.BAD_VALUE);
        Script.due("textFault() of 200 blanks", full.textFault(), 200);
        Script.due("clearText()", full.clearText(), 200);
    }

    /** The fault of a text, with the fixes A and B. */
    private static void fault(String text, int want) {
        FlightLegs computer = new FlightLegs();
        computer.addFix(0, 0);
        computer.addFix(100, 0);
        for (int i = 0; i < text.length(); i++) {
            computer.type(text.charAt(i));
        }
        Script.due("textFault() of '" + text + "'", computer.textFault(), want);
        boolean loaded = computer.load() > 0;
        Script.due("load() of '" + text + "'", loaded ? 1 : 0, want == FlightLegs.NONE ? 1 : 0);
    }

    private static void faultless() {
        String[] texts = {
            "IF A", "TF B", "DF A", "CF B 23", "CF B0", "CA 0 450", "CA0 0", "CI 23", "VM 0", "HF A 0 L 10 1", "HF B23R200 9",
            "  IF  A  ", "IF A;TF B;DF A", "IF A ; TF B", "IF A O", "IF A A 450", "IF A A0", "IF A + 0", "IF A+450", "IF A - 0",
            "IF A-450", "IF A B 5 5", "IF A B 0 450", "IF A S 100", "IF A S500", "IF A O O A 5 + 6 - 7 B 8 9 S 100 S 200",
            "CA 000 007", "VM 3O", "HF A 3 R 10 1O;IF B"};
        for (String text : texts) {
            fault(text, FlightLegs.NONE);
        }
    }

    private static void faults() {
        fault("", 0);
        fault("   ", 3);
        fault("IF", 2);
        fault("IF ", 3);
        fault("IF A;", 5);
        fault("IF A; ", 6);
        fault(";", 0);
        fault("IF A;;IF B", 5);
        fault("IFA", 0);
        fault("if A", 0);
        fault(" I F", 1);
        fault("PP A", 0);
        fault("XX A", 0);
        fault("12", 0);
        fault("IF C", 3);
        fault("IF Z", 3);
        fault("IF AB", 3);
        fault("IF AZ", 3);
        fault("IF ZA", 3);
        fault("IF a", 3);
        fault("IF [", 3);
        fault("IF @", 3);
        fault("CI :", 3);
        fault("CI /", 3);
        fault("IF 1", 3);
        fault("IF A B", 6);
        fault("IF A B 20", 9);
        fault("IF A B 20 19", 10);
        fault("IF A B 451 452", 7);
        fault("IF A B 20 451", 10);
        fault("IF A 5", 5);
        fault("IF A OO", 5);
        fault("IF A\tO", 4);
        fault("IF A?", 4);
        fault("IF A A", 6);
        fault("IF A A 451", 7);
        fault("IF A A A", 7);
        fault("IF A +451", 6);
        fault("IF A + + 5", 7);
        fault("IF A -451", 6);
        fault("IF A A 0005", 7);
        fault("IF A S 99", 7);
        fault("IF A S 501", 7);
        fault("IF A S 999", 7);
        fault("CF A", 4);
        fault("CF A 24", 5);
        fault("CF A 0023", 5);
        fault("CF 3 A", 3);
        fault("CA 24 5", 3);
        fault("CA 3", 4);
        fault("CA 3 451", 5);
        fault("CA A 3", 3);
        fault("CI 24", 3);
        fault("CI A", 3);
        fault("VM 24", 3);
        fault("VM 3 3", 5);
        fault("HF A 24 L 10 1", 5);
        fault("HF A 3 X 10 1", 7);
        fault("HF A 3 LR 10 1", 7);
        fault("HF A 3 10 1", 7);
        fault("HF A 3 L 9 1", 9);
        fault("HF A 3 L 201 1", 9);
        fault("HF A 3 L 10 0", 12);
        fault("HF A 3 L 10 10", 12);
        fault("HF A 3 L 10", 11);
        fault("IF A TF B", 5);
        fault("TF A;XF B;IF", 5);
        fault("IF A" + (char) 228, 4);
        Script.run("a fix that is added later", """
            fixes 0,0
            "TF B"
            textFault() = 3; load() = BAD_STATE; addFix(5, 5) = 1; textFault() = NONE; load() = 1
            """);
    }

    private static void tooManyLegs() {
        String twelve = "IF A" + ";TF B".repeat(11);
        fault(twelve, FlightLegs.NONE);
        fault(twelve + " O", FlightLegs.NONE);
        fault(twelve + ";", twelve.length());
        fault(twelve + " ;TF B", twelve.length() + 1);
    }

    private static void attributesTakeEffect() {
        // A window shows by the altitude at which setting it back counts violations, a limit by the value that it had before.
        Script.run("attributes", """
            fixes 0,0 0,500
            "IF A;TF B A 100"
            load() = 2; climbAltitude(1, 1) = 100; descentAltitude(1, 1) = 100
            "IF A;TF B + 120"
            load() = 2; climbAltitude(1, 1) = 150; descentAltitude(1, 1) = 120
            "IF A;TF B - 90"
            load() = 2; climbAltitude(1, 1) = 90; descentAltitude(1, 1) = 0
            "IF A;TF B B 30 60"
            load() = 2; climbAltitude(1, 1) = 60; descentAltitude(1, 1) = 30
            "IF A;TF B S 250 O"
            load() = 2; setSpeedLimit(1, 999) = 250; setFlyOver(1, true) = 1
            "IF A;TF B"
            load() = 2; setSpeedLimit(1, 100) = 999; setFlyOver(1, true) = 0
            """);
        Script.run("the last attribute counts", """
            fixes 0,0 0,500
            "IF A;TF B A 100 + 20 S 300 S 200"
            load() = 2; climbAltitude(1, 1) = 150; descentAltitude(1, 1) = 20; setSpeedLimit(1, 999) = 200
            "IF A;TF B + 100 - 140"
            load() = 2; climbAltitude(1, 1) = 140; descentAltitude(1, 1) = 0
            "IF A;TF B - 100 B 10 20 + 130"
            load() = 2; climbAltitude(1, 1) = 150; descentAltitude(1, 1) = 130
            """);
    }
}
