/** Promises 21 to 28: flying, the present position, and what going direct saves. */
public final class FlyingTest {
    public static void main(String[] args) {
        flying();
        flyingOn();
        resuming();
        progress();
        positions();
        positionsWithoutPieces();
        cutBySettings();
        saving();
        Script.end();
    }

    private static void flying() {
        Script.run("promise 21", """
            fixes 0,0 0,300 0,600
            fly(-1) = BAD_VALUE; fly(2001) = BAD_VALUE; fly(0) = BAD_STATE; fly(2000) = BAD_STATE
            "IF A;TF B;TF C"
            load() = 3; fly(1) = BAD_STATE; fly(2001) = BAD_VALUE; execute() = 3; currentLeg() = 0; fly(0) = 0; currentLeg() = 1
            fly(2001) = BAD_VALUE; fly(-1) = BAD_VALUE; fly(299) = 299; currentLeg() = 1; flownLength() = 299; fly(1) = 1
            currentLeg() = 2; flownLength() = 0; fly(2000) = 300; currentLeg() = 2; flownLength() = 300; fly(2000) = 0; fly(0) = 0
            setFlyOver(2, true) = 0; fly(1) = BAD_STATE; undo() = 0; fly(1) = 0
            """);
    }

    private static void flyingOn() {
        Script.run("through legs without length, but not over a gap", """
            fixes 0,0 0,300 0,600
            "IF A;TF A;DF A;TF B;TF B;IF C;TF B"
            load() = 7; execute() = 7; fly(0) = 0; currentLeg() = 3; fly(2000) = 300; currentLeg() = 4; flownLength() = 0
            fly(10) = 0; currentLeg() = 4; resume() = 5; fly(10) = 10; currentLeg() = 6
            """);
        Script.run("through 19 legs without length", """
            fixes 0,0 0,300
            "IF A;TF A;TF A;TF A;TF A;TF A;TF A;TF A;TF A;TF A"
            load() = 10
            "TF A;TF A;TF A;TF A;TF A;TF A;TF A;TF A;TF A;TF B"
            insert(10) = 20; execute() = 20; fly(100) = 100; currentLeg() = 19; flownLength() = 100; positionY() = 100
            """);
    }

    private static void resuming() {
        Script.run("promise 22", """
            fixes 0,0 0,300 0,600
            resume() = BAD_STATE
            "IF A;TF B;VM 3;TF C;IF B"
            load() = 5; resume() = BAD_STATE; execute() = 5; resume() = BAD_STATE; fly(350) = 350; resume() = BAD_STATE
            fly(2000) = 49; currentLeg() = 2; setFlyOver(2, true) = 0; resume() = BAD_STATE; cancel() = 5; resume() = 3
            currentLeg() = 3; flownLength() = 0; resume() = 4; resume() = BAD_STATE; currentLeg() = 4
            """);
    }

    private static void progress() {
        Script.run("promises 23 and 24", """
            fixes 0,0 0,300
            currentLeg() = NONE; flownLength() = NONE
            "IF A;TF B"
            load() = 2; currentLeg() = NONE; flownLength() = NONE; execute() = 2; currentLeg() = 0; flownLength() = 0; fly(7) = 7
            currentLeg() = 1; flownLength() = 7; load() = 2; currentLeg() = 1; flownLength() = 7
            """);
    }

    private static void positions() {
        // Leg 1 is straight to (0, 150), leg 2 an arc of 78 to (50, 200) and then straight to (200, 200).
        Script.run("promises 25 to 27", """
            fixes 0,0 0,200 200,200
            positionX() = NONE; positionY() = NONE; presentCourse() = NONE
            "IF A;TF B;TF C"
            load() = 3; positionX() = NONE; execute() = 3; positionX() = 0; positionY() = 0; presentCourse() = 0; fly(149) = 149
            positionX() = 0; positionY() = 149; presentCourse() = 0; fly(1) = 1; positionY() = 150; presentCourse() = 6
            fly(39) = 39; positionX() = 25; positionY() = 175; presentCourse() = 6; fly(38) = 38; positionX() = 49
            positionY() = 199; fly(1) = 1; positionX() = 50; positionY() = 200; fly(100) = 100; positionX() = 150
            positionY() = 200; setFlyOver(2, true) = 0; positionX() = 150; cancel() = 3; fly(2000) = 50; positionX() = 200; flownLength() = 228
            """);
        Script.run("in the pattern of the first leg", """
            fixes -70,30
            "HF A 9 R 50 1"
            load() = 1; execute() = 1; fly(200) = 200; positionX() = -70; positionY() = 30; presentCourse() = 9
            """);
        // The pieces of the CF leg are 370 on course 3, an arc of 39 and 30, both on course 0.
        Script.run("between two pieces it is the later one", """
            fixes 0,0 300,300
            "IF A;CF B 0"
            load() = 2; execute() = 2; fly(369) = 369; presentCourse() = 3; fly(1) = 1; presentCourse() = 0; positionX() = 285
            positionY() = 238; fly(100) = 69; presentCourse() = 0
            """);
        Script.run("truncation on the way to the south-west", """
            fixes 5,5 -95,-45
            "IF A;TF B"
            load() = 2; legLength(1, 1) = 111; execute() = 2; fly(10) = 10; positionX() = -4; positionY() = 1; presentCourse() = 16
            """);
    }

    private static void positionsWithoutPieces() {
        Script.run("the course of the leg for CF", """
            fixes 10,20
            "CF A 7"
            load() = 1; execute() = 1; positionX() = 10; positionY() = 20; presentCourse() = 7
            "TF A"
            load() = 1; execute() = 1; positionX() = 10; presentCourse() = 0
            "CI 5"
            load() = 1; execute() = 1; positionX() = NONE; positionY() = NONE; presentCourse() = NONE; currentLeg() = 0
            flownLength() = 0
            """);
        Script.run("the course of the leg for PP", """
            fixes 0,0 300,0
            "IF A;TF B"
            load() = 2; execute() = 2; fly(40) = 40; directTo(1) = 2; execute() = 2; currentLeg() = 0; positionX() = 40
            positionY() = 0; presentCourse() = 6
            """);
        Script.run("a CF leg that became a DF leg has no course any more", """
            fixes 0,0 300,0
            "IF A;CF B 6"
            load() = 2; execute() = 2; fly(2000) = 300; directTo(1) = 2; execute() = 2; presentCourse() = 6; fly(0) = 0
            currentLeg() = 1; presentCourse() = 0; positionX() = 300
            """);
        Script.run("a CI leg that meets the course at the fix leaves a CF leg without pieces", """
            fixes 0,0 500,0
            "IF A;CI 6;CF B 0"
            load() = 3; endX(1, 1) = 500; legLength(1, 2) = 0; turnKind(1, 2) = 0; execute() = 3; fly(2000) = 500; currentLeg() = 2
            positionX() = 500; positionY() = 0; presentCourse() = 0
            """);
    }

    private static void cutBySettings() {
        Script.run("the flown length is cut at once, and does not grow back", """
            fixes 0,0
            "IF A;CA 6 300"
            load() = 2; execute() = 2; fly(900) = 900; flownLength() = 900; setGradients(600, 318, 500) = 300; flownLength() = 500
            positionX() = 500; setGradients(300, 318, 500) = 600; flownLength() = 500; legLength(0, 1) = 1000; setEnds(180, 0) = 0
            flownLength() = 400; setEnds(0, 0) = 180; flownLength() = 400
            """);
        Script.run("also by the wind and the cruise speed, and while there is a modified plan", """
            fixes 0,0 0,300 300,300
            "IF A;TF B;TF C"
            load() = 3; execute() = 3; fly(249) = 249; flownLength() = 249; setFlyOver(1, true) = 0; setCruise(300, 440) = 300
            flownLength() = 240; setCruise(300, 400) = 300; flownLength() = 240; setWind(99, 0) = 1; legLength(0, 1) = 223
            flownLength() = 223; setWind(0, 0) = 1; flownLength() = 223; cancel() = 3; flownLength() = 223
            """);
    }

    private static void saving() {
        // To C: 150 + 228 - 100 on the legs; the direct leg has an arc of 52 and 184 from its end to C, less the next lead 13.
        // To D: 150 + 228 + 100 + 414 - 100; the direct leg has an arc of 65, the way of 465 to D and the pattern of 414.
        Script.run("promise 28", """
            fixes 0,0 0,200 200,200 500,200
            directSaving(0) = BAD_INDEX
            "IF A;TF B;TF C;VM 6;HF D 6 R 50 1"
            load() = 5; directSaving(2) = BAD_INDEX; execute() = 5; directSaving(-1) = BAD_INDEX; directSaving(5) = BAD_INDEX
            directSaving(3) = BAD_STATE; directSaving(0) = 0; fly(100) = 100; directSaving(0) = BAD_STATE; directSaving(1) = 0
            directSaving(2) = 55; delete(2) = 4; directSaving(2) = 55; directSaving(4) = -152
            """);
        Script.run("no present position", """
            fixes 0,0 0,200
            "VM 3;TF A;TF B"
            load() = 3; execute() = 3; directSaving(1) = BAD_STATE; directSaving(0) = BAD_STATE; resume() = 1; directSaving(2) = 0
            """);
        Script.run("earlier CA legs do not count in the direct plan", """
            fixes 0,0 0,200 200,200
            "IF A;CA 0 50;TF B;CA 6 52"
            load() = 4; legLength(1, 3) = 142; legLength(1, 2) = 34; turnKind(1, 3) = 2; execute() = 4; directSaving(2) = 50
            """);
    }
}
