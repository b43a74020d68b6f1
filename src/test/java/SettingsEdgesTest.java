/** The edges of fixes, settings, the ground speed, and promises 5 to 9. Most titles quote the document. */
public final class SettingsEdgesTest {
    private static final String LEAST = "-2147483648";
    private static final String MOST = "2147483647";

    public static void main(String[] args) {
        settingsAtFirst();
        fixes();
        fullListOfFixes();
        wind();
        cruise();
        gradients();
        ends();
        leastGroundSpeed();
        lesserSpeed();
        changeOfAltitude();
        settingsInAnyState();
        Script.end();
    }

    /** A call in which one argument goes over both ends of its range, while the others stay at a good value. */
    private static void range(String call, int low, int high, String answer) {
        String[] bad = {"" + (low - 1), "" + (high + 1), LEAST, MOST};
        for (String value : bad) {
            Script.run(call, call.replace("?", value) + " = BAD_VALUE");
        }
        Script.run(call, call.replace("?", "" + low) + " = " + answer);
        Script.run(call, call.replace("?", "" + high) + " = " + answer);
    }

    private static void settingsAtFirst() {
        // Without wind 1000 takes 900 seconds on each course; with 1 knot along it would take 897.
        Script.run("the wind, a vector in knots toward which it blows, (0, 0) at first; .. the cruise speed (400 at first)", """
            fixes 0,0
            "IF A;CA 0 300"
            load() = 2; legTime(1, 1) = 900
            "IF A;CA 6 300"
            load() = 2; legTime(1, 1) = 900
            """);
        // The first CA leg is (100 - 0) * 1000 / 300 long, and climbs by 333 * 300 / 1000 = 99 from 0.
        Script.run("the cruise altitude (300 at first) .. the climb gradient .. (300 ..) .. the departure altitude (.. 0 at first)", """
            fixes 0,0
            "IF A;CA 0 100;CA 0 450"
            load() = 3; legLength(1, 1) = 333; climbAltitude(1, 0) = 0; climbAltitude(1, 1) = 99; climbAltitude(1, 2) = 300
            setCruise(300, 400) = 300; setGradients(300, 318, 500) = 300; setEnds(0, 0) = 0
            """);
        // The descent over 100 is 31 with 318, but 32 with 320; with the arrival altitude 0 that is the altitude before.
        Script.run("the descent gradient and the steepest gradient .. (300, 318 and 500 at first) .. the arrival altitude (.. 0 at first)",
            """
            fixes 0,0 0,1000 0,2000 0,2100 0,2599 0,2600
            "IF A;TF B;TF C;TF D"
            load() = 4; descentAltitude(1, 3) = 0; descentAltitude(1, 2) = 31; descentAltitude(1, 1) = 300; setCruise(450, 400) = 300
            descentAltitude(1, 1) = 349
            "IF A;TF C A 300;TF E - 0"
            load() = 3; violation(1, 2) = 2
            "IF A;TF C A 300;TF F - 0"
            load() = 3; violation(1, 2) = 0
            """);
    }

    private static void fixes() {
        range("addFix(?, 0)", -9999, 9999, "0");
        range("addFix(0, ?)", -9999, 9999, "0");
        range("addFix(?, 9999)", -9999, 9999, "0");
        range("addFix(-9999, ?)", -9999, 9999, "0");
        Script.run("its x, -9999 to 9999; its y, -9999 to 9999", """
            addFix(-10000, -10000) = BAD_VALUE; addFix(-9999, 9999) = 0; addFix(9999, -9999) = 1; addFix(10000, 10000) = BAD_VALUE
            addFix(0, 0) = 2; addFix(1, -1) = 3
            "IF A;IF B;IF C;IF D"
            load() = 4; endX(1, 0) = -9999; endY(1, 0) = 9999; endX(1, 1) = 9999; endY(1, 1) = -9999; endX(1, 2) = 0; endY(1, 2) = 0
            endX(1, 3) = 1; endY(1, 3) = -1
            """);
    }

    private static void fullListOfFixes() {
        StringBuilder fifteen = new StringBuilder();
        for (int i = 0; i < 15; i++) {
            fifteen.append("addFix(").append(i).append(", 0) = ").append(i).append("; ");
        }
        Script.run("There are at most 16 fixes, numbered from 0; FULL if there are 16 fixes", """
            FIFTEEN
            "IF P"
            textFault() = 3; addFix(15, 99) = 15; textFault() = NONE; addFix(16, 0) = FULL; addFix(15, 99) = FULL
            addFix(0, 10000) = BAD_VALUE; addFix(-10000, 0) = BAD_VALUE; load() = 1; endX(1, 0) = 15; endY(1, 0) = 99
            "IF Q"
            textFault() = 3
            "IF A;IF O"
            load() = 2; endX(1, 0) = 0; endX(1, 1) = 14
            """.replace("FIFTEEN", fifteen));
    }

    private static void wind() {
        range("setWind(?, 0)", -99, 99, "1");
        range("setWind(0, ?)", -99, 99, "1");
        // 400 + 99 and 400 - 99 along the course; 1000 * 360 / 499 = 721, 360000 / 301 = 1196.
        Script.run("its x in knots, -99 to 99; its y in knots, -99 to 99", """
            fixes 0,0
            "IF A;CA 6 300"
            load() = 2; setWind(99, 0) = 1; legTime(1, 1) = 721; setWind(100, 0) = BAD_VALUE; setWind(-99, 0) = 1; legTime(1, 1) = 1196
            setWind(-100, 0) = BAD_VALUE; setWind(0, 99) = 1; legTime(1, 1) = 900
            "IF A;CA 0 300"
            load() = 2; legTime(1, 1) = 721; setWind(0, 100) = BAD_VALUE; setWind(0, -99) = 1; legTime(1, 1) = 1196
            setWind(0, -100) = BAD_VALUE; setWind(99, 0) = 1; legTime(1, 1) = 900; setWind(99, 100) = BAD_VALUE
            """);
    }

    private static void cruise() {
        range("setCruise(?, 400)", 10, 450, "300");
        range("setCruise(300, ?)", 100, 500, "300");
        Script.run("altitude: 10 to 450; speed: 100 to 500; Returns the previous cruise altitude", """
            fixes 0,0
            "IF A;CA 6 450"
            load() = 2; setCruise(10, 100) = 300; climbAltitude(1, 1) = 10; legTime(1, 1) = 5400; setCruise(9, 400) = BAD_VALUE
            setCruise(300, 99) = BAD_VALUE; setCruise(450, 500) = 10; climbAltitude(1, 1) = 450; legTime(1, 1) = 1080
            setCruise(451, 400) = BAD_VALUE; setCruise(300, 501) = BAD_VALUE; setCruise(300, 400) = 450; setCruise(300, 400) = 300
            """);
    }

    private static void gradients() {
        range("setGradients(?, 318, 500)", 100, 900, "300");
        range("setGradients(300, ?, 500)", 100, 900, "300");
        range("setGradients(300, 318, ?)", 100, 900, "300");
        // The CA leg to 450 is 450 * 1000 / 100 = 4500 or 450000 / 900 = 500 long.
        Script.run("the climb gradient, 100 to 900; Returns the previous climb gradient", """
            fixes 0,0
            "IF A;CA 6 450"
            load() = 2; setGradients(100, 318, 500) = 300; legLength(1, 1) = 4500; setGradients(99, 318, 500) = BAD_VALUE
            setGradients(900, 318, 500) = 100; legLength(1, 1) = 500; setGradients(901, 318, 500) = BAD_VALUE
            setGradients(300, 318, 500) = 900; setGradients(300, 318, 500) = 300
            """);
        Script.run("the descent gradient, 100 to 900", """
            fixes 0,0 0,1000 0,1200
            "IF A;TF B;TF C"
            load() = 3; setGradients(300, 100, 500) = 300; descentAltitude(1, 1) = 20; setGradients(300, 99, 500) = BAD_VALUE
            setGradients(300, 900, 500) = 300; descentAltitude(1, 1) = 180; setGradients(300, 901, 500) = BAD_VALUE
            """);
        // From 90 to 0 the leg of 100 is too steep for 899, but not for 900; from 10 to 0 for 99.9, but not for 100.
        Script.run("the steepest gradient, 100 to 900", """
            fixes 0,0 0,1000 0,1100
            "IF A;TF B A 90;TF C - 0"
            load() = 3; setGradients(300, 318, 900) = 300; violation(1, 2) = 0; setGradients(300, 318, 901) = BAD_VALUE
            setGradients(300, 318, 899) = 300; violation(1, 2) = 2; setWindow(1, 10, 10) = 0; setGradients(300, 318, 100) = 300
            violation(1, 2) = 0; setWindow(1, 11, 11) = 1; setGradients(300, 318, 99) = BAD_VALUE; violation(1, 2) = 2
            """);
    }

    private static void ends() {
        range("setEnds(?, 0)", 0, 450, "0");
        range("setEnds(0, ?)", 0, 450, "0");
        Script.run("the departure altitude, 0 to 450; the arrival altitude, 0 to 450; Returns the previous departure altitude", """
            fixes 0,0
            "IF A"
            load() = 1; setCruise(450, 400) = 300; setEnds(450, 0) = 0; climbAltitude(1, 0) = 450; descentAltitude(1, 0) = 0
            setEnds(451, 0) = BAD_VALUE; setEnds(0, 450) = 450; climbAltitude(1, 0) = 0; descentAltitude(1, 0) = 450
            setEnds(0, 451) = BAD_VALUE; setEnds(-1, 450) = BAD_VALUE; setEnds(7, -1) = BAD_VALUE; setEnds(7, 8) = 0
            climbAltitude(1, 0) = 7; descentAltitude(1, 0) = 8; setEnds(0, 0) = 7; setEnds(0, 0) = 0
            """);
    }

    private static void leastGroundSpeed() {
        // 1000 * 360 / 51 = 7058, / 50 = 7200, and / 49 would be 7346.
        Script.run("The ground speed .. is V + .., but at least 50", """
            fixes 0,0
            "IF A;CA 6 300 S 100"
            load() = 2; setWind(-49, 0) = 1; legTime(1, 1) = 7058; setWind(-50, 0) = 1; legTime(1, 1) = 7200; setWind(-51, 0) = 1
            legTime(1, 1) = 7200; setWind(-99, 0) = 1; legTime(1, 1) = 7200; setWind(-48, 0) = 1; legTime(1, 1) = 6923
            """);
        // (-50 * 707 - 50 * 707) / 1000 = -70, and with -35 it is -49.
        Script.run("at least 50 on a slanted course", """
            fixes 0,0
            "IF A;CA 3 300 S 100"
            load() = 2; setWind(-50, -50) = 1; legTime(1, 1) = 7200; setWind(-35, -35) = 1; legTime(1, 1) = 7058
            """);
    }

    private static void lesserSpeed() {
        Script.run("V is the lesser one of the cruise speed and the speed limit of the leg", """
            fixes 0,0
            "IF A;CA 6 300"
            load() = 2; setCruise(300, 250) = 300; setSpeedLimit(1, 249) = 999; legTime(1, 1) = 1445; setSpeedLimit(1, 250) = 249
            legTime(1, 1) = 1440; setSpeedLimit(1, 251) = 250; legTime(1, 1) = 1440; setSpeedLimit(1, 500) = 251; legTime(1, 1) = 1440
            setSpeedLimit(1, 100) = 500; legTime(1, 1) = 3600; setSpeedLimit(1, 999) = 100; setCruise(300, 500) = 300
            legTime(1, 1) = 720
            """);
    }

    private static void changeOfAltitude() {
        // 9 * 111 / 1000 = 0 and 10 * 111 / 1000 = 1; 3333 * 300 / 1000 = 999 is cut by the cruise altitude.
        Script.run("An altitude changes by d * g / 1000 over the length d with the gradient g", """
            fixes 0,0 0,9 0,10 0,3333 0,1666
            "IF A;TF B"
            load() = 2; setGradients(111, 111, 500) = 300; climbAltitude(1, 1) = 0; descentAltitude(1, 0) = 0
            "IF A;TF C"
            load() = 2; climbAltitude(1, 1) = 1; descentAltitude(1, 0) = 1
            "IF A;TF E"
            load() = 2; climbAltitude(1, 1) = 184; descentAltitude(1, 0) = 184; altitudeAt(1, 1, 1659) = 0; altitudeAt(1, 1, 1657) = 0
            altitudeAt(1, 1, 1656) = 1
            """);
    }

    private static void settingsInAnyState() {
        Script.run("settings are no edits: they make no modified plan, and are not undone", """
            fixes 0,0 300,0
            setWind(9, 9) = 1; setCruise(200, 300) = 300; setGradients(200, 200, 200) = 300; setEnds(5, 5) = 0; legCount(1) = BAD_INDEX
            undo() = BAD_STATE
            "IF A;TF B"
            load() = 2; setCruise(250, 350) = 200; undo() = 0; undo() = BAD_STATE; setCruise(250, 350) = 250; setEnds(0, 0) = 5
            load() = 2; setGradients(300, 318, 500) = 200; cancel() = 0; setGradients(300, 318, 500) = 300
            """);
        Script.run("a setting changes the paths of both plans", """
            fixes 0,0 300,0
            "IF A;TF B"
            load() = 2; execute() = 2; setFlyOver(1, true) = 0; legTime(0, 1) = 270; legTime(1, 1) = 270; setCruise(300, 300) = 300
            legTime(0, 1) = 360; legTime(1, 1) = 360; setWind(60, 0) = 1; legTime(0, 1) = 300; legTime(1, 1) = 300; setEnds(100, 0) = 0
            climbAltitude(0, 0) = 100; climbAltitude(1, 0) = 100; setGradients(100, 100, 100) = 300; climbAltitude(0, 1) = 130
            climbAltitude(1, 1) = 130
            """);
    }
}
