/** What the tests share: comparing answers, and typing texts. */
final class Check {
    static final int NONE = -1000000, BAD_INDEX = -1000001, BAD_VALUE = -1000002, BAD_STATE = -1000003, FULL = -1000004;

    private static int compared = 0;
    private static int wrong = 0;

    private Check() {
    }

    static void due(String call, int got, int want) {
        compared++;
        if (got != want) {
            wrong++;
            System.out.println(call + " answered " + got + ", due is " + want);
        }
    }

    static void type(FlightLegs computer, String text) {
        computer.clearText();
        for (int i = 0; i < text.length(); i++) {
            due("type of '" + text + "'", computer.type(text.charAt(i)), i + 1);
        }
    }

    /** A computer with fixes at the given coordinates, x and y by turns. */
    static FlightLegs withFixes(int... coordinates) {
        FlightLegs computer = new FlightLegs();
        for (int i = 0; i + 1 < coordinates.length; i += 2) {
            due("addFix", computer.addFix(coordinates[i], coordinates[i + 1]), i / 2);
        }
        return computer;
    }

    /** Types a text and loads it; the number of its legs is one more than that of its semicolons. */
    static void load(FlightLegs computer, String text) {
        type(computer, text);
        int legs = 1;
        for (int i = 0; i < text.length(); i++) {
            if (text.charAt(i) == ';') {
                legs++;
            }
        }
        due("load of '" + text + "'", computer.load(), legs);
    }

    static void loadAndExecute(FlightLegs computer, String text) {
        load(computer, text);
        computer.execute();
    }

    static void end() {
        System.out.println(compared + " answers compared, " + wrong + " wrong");
        if (wrong != 0) {
            System.exit(1);
        }
    }
}
