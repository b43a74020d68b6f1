/** Promises 1 and 5 to 9: the settings of a new object, the fixes and the settings. */
public final class SettingsTest {
    public static void main(String[] args) {
        newObject();
        fixes();
        wind();
        cruise();
        gradients();
        ends();
        Script.end();
    }

    private static void newObject() {
        Script.run("promise 1", """
            legCount(0) = 0; legCount(1) = BAD_INDEX; currentLeg() = NONE; flownLength() = NONE; positionX() = NONE
            clearText() = 0; execute() = BAD_STATE; cancel() = BAD_STATE; undo() = BAD_STATE; pieceCount(0) = 0; addFix(0, 0) = 0
            """);
        // 1000 at 400 knots; the climb reaches 300 with 300 feet a mile, and the descent needs 300000 / 318 = 943 of the last leg.
        Script.run("the settings at first", """
            fixes 0,0 0,1000 0,2000
            "IF A;TF B;TF C"
            load() = 3; legTime(1, 1) = 900; altitude(1, 0) = 0; climbAltitude(1, 1) = 300; altitude(1, 1) = 300
            climbAltitude(1, 2) = 300; descentAltitude(1, 2) = 0; altitude(1, 2) = 0; topOfDescent(1) = 1057
            setCruise(300, 400) = 300; setGradients(300, 318, 500) = 300; setEnds(0, 0) = 0; topOfDescent(1) = 1057
            """);
        // 450 over 899 is more than 500 feet a mile, over 900 it is not.
        Script.run("the steepest gradient at first", """
            fixes 0,0 0,1500 0,2399 0,2400
            "IF A;TF B A 450;TF C - 0"
            load() = 3; setCruise(450, 400) = 300; altitude(1, 1) = 450; violation(1, 2) = 2
            "IF A;TF B A 450;TF D - 0"
            load() = 3; altitude(1, 1) = 450; violation(1, 2) = 0
            """);
    }

    private static void fixes() {
        Script.run("promise 5", """
            addFix(-10000, 0) = BAD_VALUE; addFix(10000, 0) = BAD_VALUE; addFix(0, -10000) = BAD_VALUE; addFix(0, 10000) = BAD_VALUE
            addFix(-9999, 9999) = 0; addFix(9999, -9999) = 1; addFix(2147483647, 0) = BAD_VALUE; addFix(0, -2147483648) = BAD_VALUE
            "IF A;TF B"
            load() = 2; endX(1, 0) = -9999; endY(1, 0) = 9999; endX(1, 1) = 9999; endY(1, 1) = -9999; legLength(1, 1) = 28281
            addFix(0, 0) = 2; addFix(0, 0) = 3; addFix(0, 0) = 4; addFix(0, 0) = 5; addFix(0, 0) = 6; addFix(0, 0) = 7
            addFix(0, 0) = 8; addFix(0, 0) = 9; addFix(0, 0) = 10; addFix(0, 0) = 11; addFix(0, 0) = 12; addFix(0, 0) = 13
            addFix(0, 0) = 14; addFix(7, 8) = 15; addFix(0, 0) = FULL; addFix(10000, 0) = BAD_VALUE
            "IF P"
            load() = 1; endX(1, 0) = 7; endY(1, 0) = 8; legFix(1, 0) = 15
            "IF Q"
            textFault() = 3
            """);
    }

    private static void wind() {
        Script.run("promise 6", """
            fixes 0,0 200,0 200,200
            "IF A;TF B;TF C"
            load() = 3; execute() = 3; setWind(99, -99) = 1; setWind(-99, 99) = 1; setWind(60, 0) = 1; setWind(100, 0) = BAD_VALUE
            setWind(-100, 0) = BAD_VALUE; setWind(0, 100) = BAD_VALUE; setWind(0, -100) = BAD_VALUE; turnRadius(0, 2) = 66
            turnLead(0, 2) = 66; legLength(0, 1) = 134; legTime(0, 1) = 104; setWind(0, -60) = 1; turnRadius(0, 2) = 50
            setWind(0, 0) = 1; legTime(0, 1) = 135
            """);
        // Toward 45 degrees: (99 * 707 + 99 * 707) / 1000 = 139; the products are added before the division.
        Script.run("wind along a slanted course", """
            fixes 0,0 1000,1000
            "IF A;TF B"
            load() = 2; setWind(99, 99) = 1; legTime(1, 1) = 944; setWind(-99, -99) = 1; legTime(1, 1) = 1950
            """);
        Script.run("the least ground speed", """
            fixes 0,0 0,500
            "IF A;TF B S 100"
            load() = 2; setWind(0, -49) = 1; legTime(1, 1) = 3529; setWind(0, -50) = 1; legTime(1, 1) = 3600
            setWind(0, -99) = 1; legTime(1, 1) = 3600
            """);
    }

    private static void cruise() {
        Script.run("promise 7", """
            fixes 0,0 0,1000
            "IF A;TF B + 450"
            load() = 2; setCruise(10, 100) = 300; setCruise(450, 500) = 10; setCruise(9, 400) = BAD_VALUE
            setCruise(451, 400) = BAD_VALUE; setCruise(300, 99) = BAD_VALUE; setCruise(300, 501) = BAD_VALUE; legTime(1, 1) = 720
            climbAltitude(1, 1) = 300; setCruise(200, 250) = 450; legTime(1, 1) = 1440; climbAltitude(1, 1) = 200
            setSpeedLimit(1, 200) = 999; legTime(1, 1) = 1800; setSpeedLimit(1, 300) = 200; legTime(1, 1) = 1440
            """);
    }

    private static void gradients() {
        Script.run("promise 8", """
            fixes 0,0 0,1000 0,2000
            "IF A;TF B;TF C"
            load() = 3; setGradients(100, 900, 100) = 300; setGradients(900, 100, 900) = 100; setGradients(99, 300, 300) = BAD_VALUE
            setGradients(901, 300, 300) = BAD_VALUE; setGradients(300, 99, 300) = BAD_VALUE; setGradients(300, 901, 300) = BAD_VALUE
            setGradients(300, 300, 99) = BAD_VALUE; setGradients(300, 300, 901) = BAD_VALUE; climbAltitude(1, 1) = 300
            descentAltitude(1, 1) = 100; setGradients(150, 200, 149) = 900; climbAltitude(1, 1) = 150; descentAltitude(1, 1) = 200
            violation(1, 2) = 2; setGradients(150, 200, 150) = 150; violation(1, 2) = 0
            """);
    }

    private static void ends() {
        Script.run("promise 9", """
            fixes 0,0 0,100
            "IF A;TF B"
            load() = 2; setEnds(450, 450) = 0; setEnds(-1, 0) = BAD_VALUE; setEnds(451, 0) = BAD_VALUE; setEnds(0, -1) = BAD_VALUE
            setEnds(0, 451) = BAD_VALUE; climbAltitude(1, 0) = 300; descentAltitude(1, 1) = 450; altitude(1, 1) = 300
            setEnds(20, 10) = 450; climbAltitude(1, 0) = 20; climbAltitude(1, 1) = 50; descentAltitude(1, 1) = 10
            descentAltitude(1, 0) = 41; setEnds(0, 0) = 20
            """);
    }
}
