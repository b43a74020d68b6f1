/** Promises 52 to 61: the vertical profile and the totals. */
public final class ProfileTest {
    public static void main(String[] args) {
        climbAndDescent();
        windows();
        lastLeg();
        altitudesOnALeg();
        violations();
        topOfDescent();
        totals();
        Script.end();
    }

    private static void climbAndDescent() {
        // The lengths are 0, 500, 500 and 1000; the changes are 150 and 300 up, and 159 and 318 down.
        Script.run("promises 52 to 54", """
            fixes 0,0 0,500 0,1000 0,2000
            "IF A;TF B;TF C;TF D"
            load() = 4; climbAltitude(1, 0) = 0; climbAltitude(1, 1) = 150; climbAltitude(1, 2) = 300; climbAltitude(1, 3) = 300
            descentAltitude(1, 3) = 0; descentAltitude(1, 2) = 300; descentAltitude(1, 1) = 300; descentAltitude(1, 0) = 300
            altitude(1, 0) = 0; altitude(1, 1) = 150; altitude(1, 2) = 300; altitude(1, 3) = 0; setCruise(450, 400) = 300
            climbAltitude(1, 3) = 450; descentAltitude(1, 2) = 318; descentAltitude(1, 1) = 450; altitude(1, 2) = 300
            setEnds(10, 40) = 0; climbAltitude(1, 0) = 10; climbAltitude(1, 1) = 160; descentAltitude(1, 3) = 40
            descentAltitude(1, 2) = 358; altitude(1, 3) = 40; execute() = 4; altitude(0, 1) = 160
            """);
        Script.run("legs without pieces are considered too", """
            fixes 0,0 0,500
            "IF A - 5;TF A B 2 3;TF B"
            load() = 3; climbAltitude(1, 0) = 0; setEnds(9, 0) = 0; climbAltitude(1, 0) = 5; climbAltitude(1, 1) = 3
            climbAltitude(1, 2) = 153; descentAltitude(1, 1) = 3; descentAltitude(1, 0) = 3; altitude(1, 0) = 3
            """);
    }

    private static void windows() {
        Script.run("windows bound both altitudes", """
            fixes 0,0 0,500 0,1000 0,2000
            "IF A;TF B;TF C A 200;TF D"
            load() = 4; climbAltitude(1, 2) = 200; climbAltitude(1, 3) = 300; descentAltitude(1, 2) = 200; descentAltitude(1, 1) = 300
            altitude(1, 2) = 200; setWindow(2, 0, 20) = 0; descentAltitude(1, 2) = 20; descentAltitude(1, 1) = 179
            altitude(1, 1) = 150; climbAltitude(1, 2) = 20; climbAltitude(1, 3) = 300
            """);
        Script.run("the cruise altitude bounds the low of a window", """
            fixes 0,0 0,100 0,200
            "IF A;TF B + 400;TF C"
            load() = 3; descentAltitude(1, 1) = 300; setWindow(1, 250, 450) = 1; descentAltitude(1, 1) = 250
            """);
    }

    private static void lastLeg() {
        Script.run("the arrival altitude within the window of the last leg", """
            fixes 0,0 0,2000
            "IF A;TF B B 50 90"
            load() = 2; descentAltitude(1, 1) = 50; setEnds(0, 70) = 0; descentAltitude(1, 1) = 70; setEnds(0, 450) = 0
            descentAltitude(1, 1) = 90; setWindow(1, 0, 450) = 0; descentAltitude(1, 1) = 450; altitude(1, 1) = 300
            """);
    }

    private static void altitudesOnALeg() {
        Script.run("promise 55", """
            fixes 0,0 0,500 0,1000 0,2000
            altitudeAt(0, 0, 0) = BAD_INDEX; altitudeAt(1, 0, 0) = BAD_INDEX; altitudeAt(2, 0, 0) = BAD_INDEX
            "IF A;TF B;TF C;TF D"
            load() = 4; altitudeAt(1, 4, 0) = BAD_INDEX; altitudeAt(1, -1, -1) = BAD_INDEX; altitudeAt(1, 3, -1) = BAD_VALUE
            altitudeAt(1, 3, 1001) = BAD_VALUE; altitudeAt(1, 0, 1) = BAD_VALUE; altitudeAt(1, 0, 0) = 0; altitudeAt(1, 1, 0) = 0
            altitudeAt(1, 1, 499) = 149; altitudeAt(1, 1, 500) = 150; altitudeAt(1, 2, 250) = 225; altitudeAt(1, 3, 0) = 300
            altitudeAt(1, 3, 56) = 300; altitudeAt(1, 3, 60) = 298; altitudeAt(1, 3, 500) = 159; altitudeAt(1, 3, 1000) = 0
            setEnds(20, 30) = 0; altitudeAt(1, 0, 0) = 20; altitudeAt(1, 3, 1000) = 30
            """);
        // The window of the leg before bounds its climb altitude, not its altitude, where this leg begins.
        Script.run("from the climb altitude of the leg before", """
            fixes 0,0 0,500 0,1000
            "IF A;TF B A 100;TF C"
            load() = 3; altitudeAt(1, 2, 0) = 100; altitudeAt(1, 2, 100) = 127; altitudeAt(1, 2, 200) = 95
            """);
    }

    private static void violations() {
        // The drop from 300 to 0 over 1000 is too steep if it is more than the steepest gradient allows, not if it is as much.
        Script.run("promise 56", """
            fixes 0,0 0,1000 0,2000
            "IF A;TF B;TF C"
            load() = 3; violation(1, 0) = 0; violation(1, 1) = 0; violation(1, 2) = 0; setGradients(300, 318, 300) = 300
            violation(1, 2) = 0; setGradients(300, 318, 299) = 300; violation(1, 2) = 2; setWindow(1, 301, 450) = 2
            violation(1, 1) = 1; violation(1, 2) = 2; setWindow(1, 300, 450) = 1; violation(1, 1) = 0
            """);
        Script.run("both at once, and leg 0 against the departure altitude", """
            fixes 0,0 0,100
            "IF A + 60;TF B"
            load() = 2; setEnds(100, 0) = 0; setCruise(50, 400) = 300; altitude(1, 0) = 50; violation(1, 0) = 3; setEnds(50, 0) = 100
            violation(1, 0) = 1; violation(1, 1) = 0; setWindow(0, 0, 30) = 1; violation(1, 0) = 2
            """);
    }

    private static void topOfDescent() {
        Script.run("promise 57", """
            fixes 0,0 0,500 0,1000 0,2000
            topOfDescent(0) = NONE; topOfDescent(1) = BAD_INDEX; topOfDescent(2) = BAD_INDEX; topOfDescent(-1) = BAD_INDEX
            "IF A;TF B;TF C;TF D"
            load() = 4; topOfDescent(0) = NONE; topOfDescent(1) = 1057; setGradients(300, 300, 500) = 300; topOfDescent(1) = 1000
            setGradients(300, 900, 500) = 300; topOfDescent(1) = 1667; setEnds(0, 450) = 0; topOfDescent(1) = NONE; altitude(1, 3) = 300
            """);
        // The last of the legs with the greatest altitude counts; here legs 1 and 2 are both at 100.
        Script.run("the last of the highest legs", """
            fixes 0,0 0,500 0,1000 0,1050
            "IF A;TF B A 100;TF C A 100;TF D A 0"
            load() = 4; topOfDescent(1) = 1000; violation(1, 3) = 2; setWindow(2, 99, 99) = 1; topOfDescent(1) = 997
            """);
        Script.run("a plan that never climbs", """
            fixes 0,0 0,500
            "IF A;TF B - 0"
            load() = 2; topOfDescent(1) = NONE
            "IF A;TF B"
            load() = 2; setEnds(50, 0) = 0; topOfDescent(1) = 343
            """);
    }

    private static void totals() {
        for (String call : new String[] {"gapCount", "totalLength", "totalTime", "violationCount"}) {
            Script.run("no such plan", """
                CALL(0) = 0; CALL(1) = BAD_INDEX; CALL(2) = BAD_INDEX; CALL(-1) = BAD_INDEX; CALL(2147483647) = BAD_INDEX
                """.replace("CALL", call));
        }
        Script.run("promises 58 to 61", """
            fixes 0,0 0,200 200,200
            "IF A;TF B;TF C;IF A;VM 3;TF B;HF B 3 R 50 1 + 450"
            load() = 7; gapCount(1) = 2; gapCount(0) = 0; totalLength(1) = 892; totalTime(1) = 802; violationCount(1) = 1
            totalLength(0) = 0; totalTime(0) = 0; execute() = 7; gapCount(0) = 2; totalLength(0) = 892; totalTime(0) = 802
            violationCount(0) = 1; totalLength(1) = BAD_INDEX; setWind(0, 60) = 1; totalTime(0) = 769; setGradients(300, 100, 100) = 300
            violationCount(0) = 1
            """);
    }
}
