/** The edges of the text of legs, its grammar and its fault, and of promises 1 to 4. Most titles quote the document. */
public final class TextEdgesTest {
    private static final int NONE = FlightLegs.NONE;

    public static void main(String[] args) {
        newObject();
        typedBytes();
        fullText();
        clearing();
        otherBytes();
        blanks();
        wordsAndNumbers();
        kinds();
        fixes();
        courses();
        altitudes();
        lengthsAndCircuits();
        speeds();
        digits();
        sides();
        attributes();
        lastAttributeCounts();
        twelveLegs();
        endsTooEarly();
        firstFaultCounts();
        Script.end();
    }

    /** The fault of a text, with the fixes A and B, and what load answers to it. */
    private static void fault(String text, int want) {
        int legs = 1;
        for (int i = 0; i < text.length(); i++) {
            legs += text.charAt(i) == ';' ? 1 : 0;
        }
        Script.run("the text '" + text + "'", """
            fixes 0,0 100,0
            "TEXT"
            textFault() = FAULT; load() = LEGS; textFault() = FAULT; clearText() = LENGTH
            """.replace("TEXT", text).replace("FAULT", "" + want).replace("LENGTH", "" + text.length())
            .replace("LEGS", want == NONE ? "" + legs : "BAD_STATE"));
    }

    private static void newObject() {
        Script.run("Creates a computer without fixes and legs, with the settings that are described and an empty text", """
            clearText() = 0
            textFault() = 0
            legCount(0) = 0
            legCount(1) = BAD_INDEX
            addFix(1, 1) = 0
            """);
        Script.run("without fixes", """
            "IF A"
            textFault() = 3; load() = BAD_STATE
            """);
    }

    private static void typedBytes() {
        Script.run("code: the byte, 0 to 255", """
            type(-1) = BAD_VALUE; type(0) = 1; type(1) = 2; type(254) = 3; type(255) = 4; type(256) = BAD_VALUE; type(257) = BAD_VALUE
            type(-2147483648) = BAD_VALUE; type(2147483647) = BAD_VALUE; type(-256) = BAD_VALUE; type(321) = BAD_VALUE; type(0) = 5
            clearText() = 5
            """);
    }

    private static void fullText() {
        String full = "type(32) = %d; ";
        StringBuilder blanks = new StringBuilder();
        for (int i = 1; i <= 195; i++) {
            blanks.append(full.formatted(i));
        }
        // The last byte of a full text is read, and a byte that was refused is not.
        Script.run("FULL if the text has 200 bytes", """
            fixes 0,0
            BLANKS
            type(73) = 196; type(70) = 197; textFault() = 197; type(32) = 198; type(65) = 199; textFault() = NONE; load() = 1
            type(59) = 200; textFault() = 200; load() = BAD_STATE; type(32) = FULL; type(256) = BAD_VALUE; type(-1) = BAD_VALUE
            type(73) = FULL; textFault() = 200; clearText() = 200; type(73) = 1; clearText() = 1; textFault() = 0
            """.replace("BLANKS", blanks));
        Script.run("a faultless text of 200 bytes", """
            fixes 0,0
            BLANKS
            type(32) = 196; type(73) = 197; type(70) = 198; type(32) = 199; type(65) = 200; textFault() = NONE; type(66) = FULL
            type(32) = FULL; textFault() = NONE; load() = 1; legFix(1, 0) = 0; clearText() = 200
            """.replace("BLANKS", blanks));
    }

    private static void clearing() {
        Script.run("Empties the text. Returns the length that it had", """
            fixes 0,0
            clearText() = 0; clearText() = 0
            "IF A"
            clearText() = 4; clearText() = 0; textFault() = 0; load() = BAD_STATE; type(73) = 1; textFault() = 0; type(70) = 2
            textFault() = 2
            """);
    }

    private static void otherBytes() {
        // Beside the ends of the letters and the digits, beside the blank, and at the ends of the bytes.
        for (int code : new int[] {0, 9, 10, 31, 33, 44, 46, 47, 58, 60, 64, 91, 95, 96, 97, 122, 123, 127, 128, 160, 228, 255}) {
            Script.run("any other single byte except blanks (32), byte " + code, """
                fixes 0,0
                "IF A"
                type(CODE) = 5; textFault() = 4; load() = BAD_STATE; clearText() = 5; type(CODE) = 1; textFault() = 0
                "CI"
                type(CODE) = 3; textFault() = 2; type(53) = 4; textFault() = 2
                "CI 5"
                type(CODE) = 5; textFault() = 4
                """.replace("CODE", "" + code));
        }
        Script.run("the first and the last digit", """
            "CI 0;CI 9;CI 10;CI 19"
            textFault() = NONE
            """);
    }

    private static void blanks() {
        fault("   IF   A   O   ;   TF   B   +   50   ", NONE);
        fault("IF A;TF B;CF A5;CA5 5;HF A5L10 1;VM0S100A5-5+5O", NONE);
        fault("IF A O B 5 5O", NONE);
        fault("IFA", 0);
        fault("IF AO", 3);
        fault("IF A OB 5 5", 5);
        fault("HF A 5L 10 1", NONE);
        fault("HFA 5 L 10 1", 0);
        fault("CA 550", 3);
        fault("CA 5 50 50", 8);
        fault("IF A B 55", 9);
        fault("HF A 5 L 101", 12);
        fault("I F A", 0);
        fault("CI 1 2", 5);
        fault("CI 1\t", 4);
    }

    private static void wordsAndNumbers() {
        fault("A", 0);
        fault("IFX A", 0);
        fault("I A", 0);
        fault("5", 0);
        fault("+", 0);
        fault("IF IF", 3);
        fault("IF 0", 3);
        fault("IF +", 3);
        fault("IF ;", 3);
        fault("CI A", 3);
        fault("CI +5", 3);
        fault("CI -5", 3);
        fault("IF A 5", 5);
        fault("IF A IF B", 5);
        fault("IF A TF", 5);
    }

    private static void kinds() {
        String[] right = {"IF A", "TF A", "DF A", "CF A 5", "CA 5 5", "CI 5", "VM 5", "HF A 5 R 10 1"};
        for (int kind = 0; kind < right.length; kind++) {
            Script.run("kind = \"IF\" fix | .. | \"HF\" fix course side length circuits", """
                fixes 0,0
                "TEXT"
                textFault() = NONE; load() = 1; legKind(1, 0) = KIND
                """.replace("TEXT", right[kind]).replace("KIND", "" + kind));
        }
        for (String wrong : new String[] {"PP", "IA", "II", "FI", "TA", "DA", "CC", "CV", "VF", "VA", "MV", "HA", "HI", "AF", "BF", "FF"}) {
            fault(wrong + " A", 0);
            fault(wrong + " 5", 0);
        }
        fault("IF 5", 3);
        fault("TF 5", 3);
        fault("DF 5", 3);
        fault("IF A 5", 5);
        fault("TF A 5", 5);
        fault("DF A 5", 5);
        fault("CF 5", 3);
        fault("CA A", 3);
        fault("CI A 5", 3);
        fault("VM A 5", 3);
        fault("HF 5", 3);
    }

    private static void fixes() {
        Script.run("A for fix 0, B for fix 1, and so on, of a fix that exists", """
            "IF A"
            textFault() = 3; addFix(1, 2) = 0; textFault() = NONE; load() = 1; legFix(1, 0) = 0
            "IF B"
            textFault() = 3; load() = BAD_STATE; addFix(3, 4) = 1; textFault() = NONE; load() = 1; legFix(1, 0) = 1; endX(1, 0) = 3
            fixes 0,0 0,0 0,0 0,0 0,0 0,0 0,0 0,0 0,0 0,0 0,0 0,0 0,0
            "TF O;TF P"
            textFault() = 8; addFix(5, 6) = 15; textFault() = NONE; load() = 2; legFix(1, 0) = 14; legFix(1, 1) = 15; endY(1, 1) = 6
            "TF Q"
            textFault() = 3
            "TF Z"
            textFault() = 3
            """);
        fault("IF AA", 3);
        fault("IF BA", 3);
        fault("IF a", 3);
    }

    private static void courses() {
        String[] before = {"CF A ", "CA ", "CI ", "VM ", "HF A "};
        String[] behind = {"", " 5", "", "", " L 10 1"};
        for (int i = 0; i < before.length; i++) {
            fault(before[i] + "0" + behind[i], NONE);
            fault(before[i] + "23" + behind[i], NONE);
            fault(before[i] + "24" + behind[i], before[i].length());
            fault(before[i] + "999" + behind[i], before[i].length());
        }
    }

    private static void altitudes() {
        for (String before : new String[] {"CA 5 ", "IF A A ", "IF A + ", "IF A - ", "IF A B 0 "}) {
            fault(before + "0", NONE);
            fault(before + "450", NONE);
            fault(before + "451", before.length());
        }
        fault("IF A B 0 0", NONE);
        fault("IF A B 450 450", NONE);
        fault("IF A B 451 451", 7);
        fault("IF A B 5 5", NONE);
        fault("IF A B 5 6", NONE);
        fault("IF A B 5 4", 9);
        fault("IF A B 1 0", 9);
        fault("IF A B 450 449", 11);
    }

    private static void lengthsAndCircuits() {
        fault("HF A 5 L 9 1", 9);
        fault("HF A 5 L 10 1", NONE);
        fault("HF A 5 L 200 1", NONE);
        fault("HF A 5 L 201 1", 9);
        fault("HF A 5 L 0 1", 9);
        fault("HF A 5 L 50 0", 12);
        fault("HF A 5 L 50 1", NONE);
        fault("HF A 5 L 50 9", NONE);
        fault("HF A 5 L 50 10", 12);
    }

    private static void speeds() {
        fault("IF A S 99", 7);
        fault("IF A S 100", NONE);
        fault("IF A S 500", NONE);
        fault("IF A S 501", 7);
        fault("IF A S 999", 7);
        fault("IF A S 0", 7);
    }

    private static void digits() {
        for (String before : new String[] {"CI ", "CF A ", "VM "}) {
            fault(before + "5", NONE);
            fault(before + "05", NONE);
            fault(before + "005", NONE);
            fault(before + "0005", before.length());
            fault(before + "0000000000000000000000000005", before.length());
            fault(before + "4294967297", before.length());
        }
        fault("CA 5 0450", 5);
        fault("IF A A 0450", 7);
        fault("IF A + 0005", 7);
        fault("IF A - 0005", 7);
        fault("IF A B 0001 2", 7);
        fault("IF A B 1 0002", 9);
        fault("IF A S 0100", 7);
        fault("HF A 5 L 0010 1", 9);
        fault("HF A 5 L 010 001", NONE);
        fault("HF A 5 L 10 0001", 12);
    }

    private static void sides() {
        fault("HF A 5 L 10 1", NONE);
        fault("HF A 5 R 10 1", NONE);
        fault("HF A 5 K 10 1", 7);
        fault("HF A 5 M 10 1", 7);
        fault("HF A 5 Q 10 1", 7);
        fault("HF A 5 S 10 1", 7);
        fault("HF A 5 LL 10 1", 7);
        fault("HF A 5 RL 10 1", 7);
        fault("HF A 5 l 10 1", 7);
        fault("HF A 5 10 1", 7);
        fault("HF A 5 + 10 1", 7);
    }

    private static void attributes() {
        fault("IF A O", NONE);
        for (String wrong : new String[] {"C", "D", "N", "P", "R", "T", "OO", "AB", "SS", "*", ",", ".", "/", "="}) {
            fault("IF A " + wrong + " 100 100", 5);
        }
        fault("IF A O 5", 7);
        fault("IF A A 5 5", 9);
        fault("IF A + 5 5", 9);
        fault("IF A - 5 5", 9);
        fault("IF A B 5 5 5", 11);
        fault("IF A S 100 5", 11);
        fault("IF A A O", 7);
        fault("IF A B O", 7);
        fault("IF A B 5 O", 9);
        fault("IF A S O", 7);
        fault("IF A A ;IF B", 7);
        fault("CF A 5 O A 5 + 5 - 5 B 5 5 S 100", NONE);
        fault("CA 5 5 O A 5 + 5 - 5 B 5 5 S 100", NONE);
        fault("CI 5 O A 5 + 5 - 5 B 5 5 S 100", NONE);
        fault("VM 5 O A 5 + 5 - 5 B 5 5 S 100", NONE);
        fault("HF A 5 L 10 1 O A 5 + 5 - 5 B 5 5 S 100", NONE);
    }

    /** The CA leg is long enough for a climb to 450, so that its altitudes show both ends of its window. */
    private static void window(String attributes, int low, int high) {
        Script.run("The attributes mean: " + attributes, """
            fixes 0,0
            "IF A;CA 0 450 ATTRIBUTES"
            setCruise(450, 400) = 300; load() = 2; climbAltitude(1, 1) = HIGH; descentAltitude(1, 1) = LOW; setEnds(0, 450) = 0
            descentAltitude(1, 1) = HIGH; violation(1, 1) = 0
            """.replace("ATTRIBUTES", attributes).replace("HIGH", "" + high).replace("LOW", "" + low));
    }

    private static void lastAttributeCounts() {
        window("", 0, 450);
        window("A 0", 0, 0);
        window("A 450", 450, 450);
        window("A 77", 77, 77);
        window("+ 0", 0, 450);
        window("+ 77", 77, 450);
        window("+ 450", 450, 450);
        window("- 0", 0, 0);
        window("- 77", 0, 77);
        window("- 450", 0, 450);
        window("B 0 450", 0, 450);
        window("B 77 78", 77, 78);
        window("B 77 77", 77, 77);
        String[] first = {"A 50", "+ 60", "- 70", "B 80 90"};
        for (String before : first) {
            window(before + " A 11", 11, 11);
            window(before + " + 22", 22, 450);
            window(before + " - 33", 0, 33);
            window(before + " B 44 45", 44, 45);
            window(before + " B 44 45 O S 100", 44, 45);
        }
        Script.run("S s: the speed limit is s; If several of them set the same, the last one counts", """
            fixes 0,0
            "IF A S 100;TF A S 500;TF A S 200 S 300;TF A S 300 O S 200;TF A O"
            load() = 5; setSpeedLimit(0, 999) = 100; setSpeedLimit(1, 999) = 500; setSpeedLimit(2, 999) = 300
            setSpeedLimit(3, 999) = 200; setSpeedLimit(4, 999) = 999
            """);
        Script.run("O: the end of the leg is to be flown over", """
            fixes 0,0
            "IF A;TF A O;TF A O O;TF A O A 5;TF A A 5"
            load() = 5; setFlyOver(0, true) = 0; setFlyOver(1, true) = 1; setFlyOver(2, true) = 1; setFlyOver(3, true) = 1
            setFlyOver(4, true) = 0
            """);
    }

    private static void twelveLegs() {
        String eleven = "VM 5" + ";VM 5".repeat(10);
        fault(eleven, NONE);
        fault(eleven + ";", eleven.length() + 1);
        fault(eleven + ";VM 5", NONE);
        String twelve = eleven + ";VM 5";
        fault(twelve + ";", twelve.length());
        fault(twelve + "  ;", twelve.length() + 2);
        fault(twelve + ";VM 5", twelve.length());
        fault(twelve + ";XX", twelve.length());
        fault(twelve + " O A 5 S 100", NONE);
        fault(twelve + " O;", twelve.length() + 2);
        fault(twelve + " 5", twelve.length() + 1);
        fault(twelve + " S", twelve.length() + 2);
        fault(twelve + "     ", NONE);
    }

    private static void endsTooEarly() {
        String[] starts = {"", "IF", "TF", "DF", "CF", "CF A", "CA", "CA 5", "CI", "VM", "HF", "HF A", "HF A 5", "HF A 5 L", "HF A 5 L 10",
            "IF A;", "IF A A", "IF A +", "IF A -", "IF A B", "IF A B 5", "IF A S", "VM 5;IF", "VM 5;VM 5;"};
        for (String start : starts) {
            fault(start, start.length());
            fault(start + " ", start.length() + 1);
            fault("   " + start + "   ", start.length() + 6);
        }
    }

    private static void firstFaultCounts() {
        fault("IF C;XX", 3);
        fault("IF A;XX;IF C", 5);
        fault("IF A;;", 5);
        fault("IF A; ;IF B", 6);
        fault(";IF A", 0);
        fault("IF A S 99;IF C", 7);
        fault("CF C 24", 3);
        fault("CF A 24 S 99", 5);
        fault("HF A 24 X 9 0", 5);
        fault("HF A 5 X 9 0", 7);
        fault("HF A 5 L 9 0", 9);
        fault("HF A 5 L 10 0", 12);
        fault("CA 24 451", 3);
        fault("IF A B 451 0", 7);
    }
}
