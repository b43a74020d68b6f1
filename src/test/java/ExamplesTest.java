/** The four examples at the end of the document's terms. */
public final class ExamplesTest {
    public static void main(String[] args) {
        twoLegs();
        legWithoutBeginning();
        entriesAndErrors();
        windowNotReached();
        Check.end();
    }

    private static void twoLegs() {
        FlightLegs f = Check.withFixes(0, 0, 0, 200);
        Check.load(f, "IF A;TF B");
        Check.due("legLength(1, 1)", f.legLength(1, 1), 200);
        Check.due("legCourse(1, 1)", f.legCourse(1, 1), 0);
        Check.due("legTime(1, 1)", f.legTime(1, 1), 180);
        Check.due("fly(10)", f.fly(10), Check.BAD_STATE);
    }

    private static void legWithoutBeginning() {
        FlightLegs f = Check.withFixes(50, 50);
        Check.type(f, "VM 3");
        Check.due("textFault()", f.textFault(), Check.NONE);
        Check.due("load()", f.load(), 1);
        Check.due("pieceCount(1)", f.pieceCount(1), 0);
        Check.due("execute()", f.execute(), 1);
        Check.due("positionX()", f.positionX(), Check.NONE);
        Check.due("currentLeg()", f.currentLeg(), 0);
    }

    private static void entriesAndErrors() {
        FlightLegs f = new FlightLegs();
        Check.due("entryFor(7, 0, true)", f.entryFor(7, 0, true), 0);
        Check.due("entryFor(8, 0, true)", f.entryFor(8, 0, true), 1);
        Check.due("entryFor(12, 0, true)", f.entryFor(12, 0, true), 2);
        Check.due("entryFor(8, 0, false)", f.entryFor(8, 0, false), 2);
        Check.due("entryFor(24, 0, true)", f.entryFor(24, 0, true), Check.BAD_VALUE);
        Check.due("legCount(0)", f.legCount(0), 0);
        Check.due("legCount(1)", f.legCount(1), Check.BAD_INDEX);
        Check.due("undo()", f.undo(), Check.BAD_STATE);
        Check.due("setCruise(250, 300)", f.setCruise(250, 300), 300);
        Check.due("setCruise(451, 300)", f.setCruise(451, 300), Check.BAD_VALUE);
    }

    private static void windowNotReached() {
        FlightLegs f = Check.withFixes(0, 0, 90, 0);
        Check.load(f, "IF A;DF B");
        Check.due("setWindow(1, 60, 40)", f.setWindow(1, 60, 40), Check.BAD_VALUE);
        Check.due("setWindow(1, 60, 90)", f.setWindow(1, 60, 90), 1);
        Check.due("altitude(1, 1)", f.altitude(1, 1), 27);
        Check.due("violation(1, 1)", f.violation(1, 1), 1);
    }
}
