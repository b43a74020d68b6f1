/** The four examples at the end of the document's terms, and the constants. */
public final class ExamplesTest {
    public static void main(String[] args) {
        Script.run("example 1", """
            addFix(0, 0) = 0; addFix(0, 200) = 1; type(73) = 1; type(70) = 2; type(32) = 3; type(65) = 4; type(59) = 5; type(84) = 6
            type(70) = 7; type(32) = 8; type(66) = 9; load() = 2; legLength(1, 1) = 200; legCourse(1, 1) = 0; legTime(1, 1) = 180
            fly(10) = -1000003
            """);
        Script.run("example 2", """
            addFix(50, 50) = 0; type(86) = 1; type(77) = 2; type(32) = 3; type(51) = 4; textFault() = -1000000; load() = 1
            pieceCount(1) = 0; execute() = 1; positionX() = -1000000; currentLeg() = 0
            """);
        Script.run("example 3", """
            entryFor(7, 0, true) = 0; entryFor(8, 0, true) = 1; entryFor(12, 0, true) = 2; entryFor(8, 0, false) = 2
            entryFor(24, 0, true) = -1000002; legCount(0) = 0; legCount(1) = -1000001; undo() = -1000003
            setCruise(250, 300) = 300; setCruise(451, 300) = -1000002
            """);
        Script.run("example 4", """
            addFix(0, 0) = 0; addFix(90, 0) = 1; type(73) = 1; type(70) = 2; type(32) = 3; type(65) = 4; type(59) = 5; type(68) = 6
            type(70) = 7; type(32) = 8; type(66) = 9; load() = 2; setWindow(1, 60, 40) = -1000002; setWindow(1, 60, 90) = 1
            altitude(1, 1) = 27; violation(1, 1) = 1
            """);
        Script.due("NONE", FlightLegs.NONE, -1000000);
        Script.due("BAD_INDEX", FlightLegs.BAD_INDEX, -1000001);
        Script.due("BAD_VALUE", FlightLegs.BAD_VALUE, -1000002);
        Script.due("BAD_STATE", FlightLegs.BAD_STATE, -1000003);
        Script.due("FULL", FlightLegs.FULL, -1000004);
        Script.end();
    }
}
