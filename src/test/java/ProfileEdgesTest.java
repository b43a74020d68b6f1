/** The edges of the vertical profile, and of promises 52 to 61. Most titles quote the document. */
public final class ProfileEdgesTest {
    /** Legs of 300, 300 and 1000: they climb by 90, 90 and 300, and descend by 95, 95 and 318. */
    private static final String LINE = """
        fixes 0,0 0,300 0,600 0,1600
        "IF A;TF B;TF C;TF D"
        load() = 4
        """;

    public static void main(String[] args) {
        leastOfTheClimb();
        climbFromTheLegBefore();
        descentOfTheLastLeg();
        descentOfOtherLegs();
        lowAboveHighOrCruise();
        lesserAltitude();
        legsWithoutPieces();
        altitudesOnALeg();
        violatedWindows();
        tooSteep();
        noTopOfDescent();
        placeOfTopOfDescent();
        lastOfTheHighestLegs();
        totals();
        Script.end();
    }

    private static void leastOfTheClimb() {
        Script.run("The climb altitude of leg i is the least of: the cruise altitude", LINE + """
            climbAltitude(1, 1) = 90; setCruise(89, 400) = 300; climbAltitude(1, 1) = 89; setCruise(90, 400) = 89; climbAltitude(1, 1) = 90
            setCruise(91, 400) = 90; climbAltitude(1, 1) = 90; climbAltitude(1, 2) = 91; setCruise(10, 400) = 91; climbAltitude(1, 1) = 10
            climbAltitude(1, 0) = 0
            """);
        Script.run("the high of its window", LINE + """
            setWindow(1, 0, 89) = 0; climbAltitude(1, 1) = 89; climbAltitude(1, 2) = 179; setWindow(1, 0, 90) = 0; climbAltitude(1, 1) = 90
            setWindow(1, 0, 91) = 0; climbAltitude(1, 1) = 90; setWindow(1, 0, 0) = 0; climbAltitude(1, 1) = 0; climbAltitude(1, 2) = 90
            """);
        Script.run("plus the change over the length of leg i with the climb gradient", LINE + """
            setGradients(100, 318, 500) = 300; climbAltitude(1, 1) = 30; climbAltitude(1, 2) = 60; climbAltitude(1, 3) = 160
            setGradients(103, 318, 500) = 100; climbAltitude(1, 1) = 30; climbAltitude(1, 2) = 60; setGradients(104, 318, 500) = 103
            climbAltitude(1, 1) = 31; climbAltitude(1, 3) = 166
            """);
    }

    private static void climbFromTheLegBefore() {
        Script.run("the climb altitude of the leg before (for leg 0 the departure altitude)", LINE + """
            setEnds(1, 0) = 0; climbAltitude(1, 0) = 1; climbAltitude(1, 1) = 91; setEnds(299, 0) = 1; climbAltitude(1, 0) = 299
            climbAltitude(1, 1) = 300; setEnds(301, 0) = 299; climbAltitude(1, 0) = 300; setWindow(0, 0, 250) = 1
            climbAltitude(1, 0) = 250; climbAltitude(1, 1) = 300
            """);
        // Leg 0 has a length of 334 here, over which the climb is 100.
        Script.run("for leg 0 the departure altitude plus the change over its length", """
            fixes 0,0 0,300
            "HF A 0 L 10 1;TF B"
            load() = 2; legLength(1, 0) = 334; climbAltitude(1, 0) = 100; climbAltitude(1, 1) = 190; setEnds(50, 0) = 0
            climbAltitude(1, 0) = 150; altitudeAt(1, 0, 0) = 50; altitudeAt(1, 0, 100) = 80
            """);
    }

    private static void descentOfTheLastLeg() {
        Script.run("The descent altitude of the last leg is the arrival altitude, but at least the low and at most the high of its window",
            LINE + """
            setEnds(0, 50) = 0; descentAltitude(1, 3) = 50; setWindow(3, 49, 450) = 0; descentAltitude(1, 3) = 50
            setWindow(3, 50, 450) = 0; descentAltitude(1, 3) = 50; setWindow(3, 51, 450) = 0; descentAltitude(1, 3) = 51
            setWindow(3, 0, 51) = 0; descentAltitude(1, 3) = 50; setWindow(3, 0, 50) = 0; descentAltitude(1, 3) = 50
            setWindow(3, 0, 49) = 0; descentAltitude(1, 3) = 49; setWindow(3, 0, 450) = 0; setEnds(0, 450) = 0
            descentAltitude(1, 3) = 450; altitude(1, 3) = 300
            """);
        Script.run("of the only leg", """
            fixes 0,0
            "IF A B 20 30"
            load() = 1; descentAltitude(1, 0) = 20; setEnds(0, 25) = 0; descentAltitude(1, 0) = 25; setEnds(0, 31) = 0
            descentAltitude(1, 0) = 30
            """);
    }

    private static void descentOfOtherLegs() {
        // Leg 1: 0 + 318 + 95 is cut to the cruise altitude of 300; with 450 it is 413.
        Script.run("the descent altitude of leg i + 1 plus the change over the length of leg i + 1 with the descent gradient", LINE + """
            descentAltitude(1, 3) = 0; descentAltitude(1, 2) = 300; setCruise(450, 400) = 300; descentAltitude(1, 2) = 318
            descentAltitude(1, 1) = 413; descentAltitude(1, 0) = 450; setGradients(300, 100, 500) = 300; descentAltitude(1, 2) = 100
            descentAltitude(1, 1) = 130; descentAltitude(1, 0) = 160; setEnds(0, 7) = 0; descentAltitude(1, 0) = 167
            """);
        Script.run("but at least the low of its window", LINE + """
            setGradients(300, 100, 500) = 300; setWindow(2, 99, 450) = 0; descentAltitude(1, 2) = 100; setWindow(2, 100, 450) = 0
            descentAltitude(1, 2) = 100; setWindow(2, 101, 450) = 0; descentAltitude(1, 2) = 101; descentAltitude(1, 1) = 131
            """);
        Script.run("and then at most the high of its window", LINE + """
            setGradients(300, 100, 500) = 300; setWindow(2, 0, 101) = 0; descentAltitude(1, 2) = 100; setWindow(2, 0, 100) = 0
            descentAltitude(1, 2) = 100; setWindow(2, 0, 99) = 0; descentAltitude(1, 2) = 99; descentAltitude(1, 1) = 129
            """);
        Script.run("and at most the cruise altitude", LINE + """
            setGradients(300, 100, 500) = 300; setCruise(101, 400) = 300; descentAltitude(1, 2) = 100; descentAltitude(1, 1) = 101
            setCruise(100, 400) = 101; descentAltitude(1, 2) = 100; setCruise(99, 400) = 100; descentAltitude(1, 2) = 99
            descentAltitude(1, 1) = 99
            """);
    }

    private static void lowAboveHighOrCruise() {
        // A low above the cruise altitude lifts the last leg, but no other one.
        Script.run("at least the low of its window, and then .. at most the cruise altitude", LINE + """
            setWindow(2, 301, 450) = 1; descentAltitude(1, 2) = 300; setWindow(2, 450, 450) = 1; descentAltitude(1, 2) = 300
            setWindow(2, 299, 450) = 1; descentAltitude(1, 2) = 300; setWindow(3, 450, 450) = 2; descentAltitude(1, 3) = 450
            descentAltitude(1, 2) = 300; altitude(1, 3) = 300
            """);
    }

    private static void lesserAltitude() {
        // The climb reaches 180 on leg 2, the descent altitude is 179, 180 and 181.
        Script.run("The altitude of a leg, at its end, is the lesser one of both", LINE + """
            setGradients(300, 179, 500) = 300; climbAltitude(1, 2) = 180; descentAltitude(1, 2) = 179; altitude(1, 2) = 179
            setGradients(300, 180, 500) = 300; altitude(1, 2) = 180; setGradients(300, 181, 500) = 300; descentAltitude(1, 2) = 181
            altitude(1, 2) = 180; altitude(1, 0) = 0; altitude(1, 3) = 0
            """);
    }

    private static void legsWithoutPieces() {
        Script.run("All legs of the plan are considered, whether they have pieces or not", """
            fixes 0,0 0,300 0,600
            "IF A;TF B;VM 5;CA 5 5 - 20;TF C + 30"
            load() = 5; climbAltitude(1, 2) = 116; legLength(1, 3) = 0; climbAltitude(1, 3) = 20; climbAltitude(1, 4) = 20
            descentAltitude(1, 4) = 30; descentAltitude(1, 3) = 20; descentAltitude(1, 2) = 20; altitude(1, 3) = 20; violation(1, 3) = 0
            violation(1, 4) = 1; altitude(1, 2) = 20
            """);
    }

    private static void altitudesOnALeg() {
        // On leg 3 it is 300 in the middle: the climb from 180 reaches it at 400, and the descent to 0 leaves it at 1000 - 943.
        Script.run("the least of the cruise altitude, the climb altitude of the leg before .. plus .., and the descent altitude of the leg",
            LINE + """
            altitudeAt(1, 3, 0) = 180; altitudeAt(1, 3, 3) = 180; altitudeAt(1, 3, 4) = 181; altitudeAt(1, 3, 222) = 246
            altitudeAt(1, 3, 223) = 246; altitudeAt(1, 3, 500) = 159; altitudeAt(1, 3, 996) = 1; altitudeAt(1, 3, 997) = 0
            altitudeAt(1, 3, 1000) = 0; setCruise(200, 400) = 300; altitudeAt(1, 3, 66) = 199; altitudeAt(1, 3, 67) = 200
            altitudeAt(1, 3, 371) = 200; altitudeAt(1, 3, 372) = 199; altitudeAt(1, 3, 200) = 200
            """);
        Script.run("length: from 0 to its length", LINE + """
            altitudeAt(1, 3, -1) = BAD_VALUE; altitudeAt(1, 3, 0) = 180; altitudeAt(1, 3, 1000) = 0; altitudeAt(1, 3, 1001) = BAD_VALUE
            altitudeAt(1, 0, 0) = 0; altitudeAt(1, 0, 1) = BAD_VALUE; altitudeAt(1, 0, -1) = BAD_VALUE; altitudeAt(1, 1, 300) = 90
            altitudeAt(1, 1, 301) = BAD_VALUE
            """);
        Script.run("(or the departure altitude)", LINE + """
            setEnds(44, 0) = 0; altitudeAt(1, 0, 0) = 44; altitudeAt(1, 1, 0) = 44; altitudeAt(1, 1, 10) = 47; setWindow(0, 0, 40) = 1
            altitudeAt(1, 0, 0) = 40; altitudeAt(1, 1, 0) = 40
            """);
    }

    private static void violatedWindows() {
        Script.run("A leg violates its window if its altitude is less than the low of the window", LINE + """
            setWindow(1, 89, 450) = 0; violation(1, 1) = 0; setWindow(1, 90, 450) = 0; violation(1, 1) = 0; setWindow(1, 91, 450) = 1
            violation(1, 1) = 1; setWindow(1, 90, 90) = 0; violation(1, 1) = 0; setWindow(1, 450, 450) = 1; violation(1, 1) = 1
            setWindow(1, 0, 0) = 0; violation(1, 1) = 0
            """);
    }

    private static void tooSteep() {
        // From 90 to 0 over 180 it is 500 feet a mile; the legs behind are 180, 179 and 181 long; 181 * 497 = 89957.
        Script.run("It is too steep if (..) * 1000 is greater than its length times the steepest gradient", """
            fixes 0,0 0,300 0,480 0,479 0,481
            "IF A;TF B A 90;TF C - 0"
            load() = 3; altitude(1, 1) = 90; legLength(1, 2) = 180; violation(1, 2) = 0; setGradients(300, 318, 499) = 300
            violation(1, 2) = 2; setGradients(300, 318, 501) = 300; violation(1, 2) = 0
            "IF A;TF B A 90;TF D - 0"
            load() = 3; setGradients(300, 318, 500) = 300; violation(1, 2) = 2; setGradients(300, 318, 502) = 300; violation(1, 2) = 2
            setGradients(300, 318, 503) = 300; violation(1, 2) = 0
            "IF A;TF B A 90;TF E - 0"
            load() = 3; setGradients(300, 318, 497) = 300; violation(1, 2) = 2; setGradients(300, 318, 498) = 300; violation(1, 2) = 0
            """);
        Script.run("the departure altitude for leg 0", """
            fixes 0,0
            "IF A - 50"
            load() = 1; setEnds(50, 50) = 0; violation(1, 0) = 0; setEnds(51, 50) = 50; violation(1, 0) = 2; setEnds(49, 50) = 51
            violation(1, 0) = 0; setEnds(49, 0) = 49; violation(1, 0) = 2; setEnds(0, 0) = 49; violation(1, 0) = 0
            """);
        Script.run("Returns 1 if it violates its window, plus 2 if it is too steep; 0 if neither", """
            fixes 0,0
            "IF A + 60"
            load() = 1; setEnds(60, 0) = 0; violation(1, 0) = 0; setEnds(59, 0) = 60; violation(1, 0) = 1; setCruise(59, 400) = 300
            setEnds(60, 0) = 59; violation(1, 0) = 3; violationCount(1) = 1; setWindow(0, 0, 58) = 1; violation(1, 0) = 2
            """);
    }

    private static void noTopOfDescent() {
        Script.run("NONE if there is none, or the plan has no legs", """
            fixes 0,0 0,300 0,600
            topOfDescent(0) = NONE
            "IF A"
            load() = 1; topOfDescent(1) = NONE
            "IF A;IF B;IF C"
            load() = 3; topOfDescent(1) = NONE; setEnds(50, 50) = 0; altitude(1, 2) = 50; topOfDescent(1) = NONE
            "IF A;TF B;TF C"
            load() = 3; setEnds(0, 180) = 50; altitude(1, 2) = 180; topOfDescent(1) = NONE; setEnds(0, 450) = 0; topOfDescent(1) = NONE
            """);
        // Leg 1 is at 90: with the arrival altitude 90 the last leg is the last of the highest ones, with 89 it is not.
        Script.run("if k is not the last leg", """
            fixes 0,0 0,300 0,600
            "IF A;TF B A 90;TF C"
            load() = 3; setEnds(0, 90) = 0; altitude(1, 1) = 90; altitude(1, 2) = 90; topOfDescent(1) = NONE; setEnds(0, 89) = 0
            topOfDescent(1) = 597; setEnds(0, 91) = 0; topOfDescent(1) = NONE
            """);
    }

    private static void placeOfTopOfDescent() {
        // The descent from 90 to 0 needs 180 with the gradient 500; leg 2 is 179, 180 and 181 long.
        Script.run("it lies at the length of all legs up to k together, plus the length of leg k + 1 minus h, if this difference is above 0",
            """
            fixes 0,0 0,300 0,479 0,480 0,481
            "IF A;TF B A 90;TF C"
            setGradients(300, 500, 500) = 300; load() = 3; altitude(1, 1) = 90; altitude(1, 2) = 0; topOfDescent(1) = 300
            "IF A;TF B A 90;TF D"
            load() = 3; topOfDescent(1) = 300
            "IF A;TF B A 90;TF E"
            load() = 3; topOfDescent(1) = 301
            """);
        // 90 * 1000 / 318 = 283; behind leg 2 there is another one, which does not count.
        Script.run("the length that is needed for the descent on leg k + 1", """
            fixes 0,0 0,300 0,600 0,900
            "IF A;TF B;TF C - 0;TF D"
            load() = 4; altitude(1, 1) = 90; topOfDescent(1) = 317; setEnds(0, 0) = 0; setWindow(2, 0, 30) = 0; altitude(1, 2) = 30
            topOfDescent(1) = 412
            """);
        // Leg 0 is at 50, and the highest: 50 * 1000 / 318 = 157 of the 300.
        Script.run("behind leg 0", """
            fixes 0,0 0,300
            "IF A;TF B"
            load() = 2; setEnds(50, 0) = 0; altitude(1, 0) = 50; topOfDescent(1) = 143; topOfDescent(0) = NONE; execute() = 2
            topOfDescent(0) = 143
            """);
    }

    private static void lastOfTheHighestLegs() {
        Script.run("the last leg k whose altitude is the greatest altitude of all legs", """
            fixes 0,0 0,300 0,600 0,900 0,1200
            "IF A;TF B A 60;TF C A 60;TF D A 60;TF E"
            load() = 5; topOfDescent(1) = 1012; setWindow(3, 59, 59) = 0; topOfDescent(1) = 897; setWindow(3, 61, 61) = 0
            topOfDescent(1) = 1009; setWindow(1, 61, 61) = 0; topOfDescent(1) = 1009; setWindow(1, 62, 62) = 0; topOfDescent(1) = 594
            """);
        // Legs 1 and 2 are at 31, from the descent over the last 100, which needs 31 * 1000 / 318 = 97 of them.
        Script.run("the greatest altitude, where the descent bounds it", """
            fixes 0,0 0,1000 0,1100
            "IF A;TF B;TF B;TF C"
            load() = 4; altitude(1, 1) = 31; altitude(1, 2) = 31; climbAltitude(1, 2) = 300; topOfDescent(1) = 1003
            """);
        // Leg 3 climbs again, to 40, and its descent altitude is 127; but the highest one is leg 1, at 90.
        Script.run("the greatest altitude, where the climb bounds it", """
            fixes 0,0 0,300 0,600 0,700 0,1100
            "IF A;TF B;TF C - 10;TF D;TF E"
            load() = 5; altitude(1, 1) = 90; altitude(1, 2) = 10; altitude(1, 3) = 40; descentAltitude(1, 3) = 127; topOfDescent(1) = 349
            """);
    }

    private static void totals() {
        Script.run("Returns the number of legs that have a gap before them", """
            fixes 0,0 0,300
            "IF A"
            load() = 1; gapCount(1) = 0
            "IF A;IF B;IF A;IF B;IF A;IF B;IF A;IF B;IF A;IF B;IF A;IF B"
            load() = 12; gapCount(1) = 11; insert(12) = FULL; execute() = 12; gapCount(0) = 11
            """);
        Script.run("Returns the length of all legs together; the time of all legs together", """
            fixes 0,0 0,300 300,300
            "IF A;TF B;TF C"
            load() = 3; totalLength(1) = 578; totalTime(1) = 520; totalLength(0) = 0; totalTime(0) = 0
            "IF A;TF B;IF B;TF C"
            load() = 4; totalLength(1) = 600; totalTime(1) = 540
            """);
        Script.run("Returns the number of legs for which violation() is not 0", """
            fixes 0,0 0,300 0,600
            "IF A;TF B;TF C"
            load() = 3; violationCount(1) = 0; setWindow(0, 1, 450) = 1; setWindow(1, 91, 450) = 2; setWindow(2, 181, 450) = 3
            violationCount(1) = 3; violationCount(0) = 0; setEnds(10, 0) = 0; violationCount(1) = 0; setEnds(0, 0) = 10
            violationCount(1) = 3; execute() = 3; violationCount(0) = 3
            """);
    }
}
