import java.lang.reflect.Constructor;
import java.lang.reflect.Field;
import java.lang.reflect.Member;
import java.lang.reflect.Method;
import java.lang.reflect.Modifier;
import java.util.Set;
import java.util.TreeSet;

/** The public face: the members of the document, and no other one that is not private. */
public final class FaceTest {
    private static final String METHODS = """
        type(int) clearText() textFault() addFix(int,int) setWind(int,int) setCruise(int,int) setGradients(int,int,int)
        setEnds(int,int) load() insert(int) delete(int) closeGap(int) setWindow(int,int,int) setSpeedLimit(int,int)
        setFlyOver(int,boolean) directTo(int) undo() execute() cancel() fly(int) resume() currentLeg() flownLength() positionX()
        positionY() presentCourse() directSaving(int) legCount(int) legKind(int,int) legFix(int,int) hasGap(int,int) endX(int,int)
        endY(int,int) legCourse(int,int) legLength(int,int) legTime(int,int) lengthTo(int,int) turnKind(int,int) turnSteps(int,int)
        turnRadius(int,int) turnLead(int,int) holdEntry(int,int) entryFor(int,int,boolean) pieceCount(int) pieceLeg(int,int)
        pieceKind(int,int) pieceLength(int,int) pieceCourse(int,int) pieceX(int,int) pieceY(int,int) climbAltitude(int,int)
        descentAltitude(int,int) altitude(int,int) altitudeAt(int,int,int) violation(int,int) topOfDescent(int) gapCount(int)
        totalLength(int) totalTime(int) violationCount(int)
        """;

    public static void main(String[] args) {
        Set<String> due = new TreeSet<>(Set.of("NONE", "BAD_INDEX", "BAD_VALUE", "BAD_STATE", "FULL", "FlightLegs()"));
        due.addAll(Set.of(METHODS.strip().split("\\s+")));
        Set<String> found = new TreeSet<>();
        for (Method method : FlightLegs.class.getDeclaredMethods()) {
            boolean fits = Modifier.isPublic(method.getModifiers()) && !Modifier.isStatic(method.getModifiers())
                && method.getReturnType() == int.class;
            note(found, method, signature(method.getName(), method.getParameterTypes()) + (fits ? "" : " of another form"));
        }
        for (Constructor<?> constructor : FlightLegs.class.getDeclaredConstructors()) {
            note(found, constructor, signature("FlightLegs", constructor.getParameterTypes()));
        }
        for (Field field : FlightLegs.class.getDeclaredFields()) {
            note(found, field, field.getName());
        }
        Script.due("the public face " + found, found.equals(due) ? 1 : 0, 1);
        Script.due("methods and constants", found.size(), 66);
        Script.due("a final class", Modifier.isFinal(FlightLegs.class.getModifiers()) ? 1 : 0, 1);
        noPrivateNamesake();
        Script.end();
    }

    private static void note(Set<String> found, Member member, String name) {
        if (!Modifier.isPrivate(member.getModifiers())) {
            found.add(name);
        }
    }

    private static String signature(String name, Class<?>[] types) {
        StringBuilder text = new StringBuilder(name).append('(');
        for (int i = 0; i < types.length; i++) {
            text.append(i == 0 ? "" : ",").append(types[i].getSimpleName());
        }
        return text.append(')').toString();
    }

    private static void noPrivateNamesake() {
        Set<String> names = new TreeSet<>();
        for (Method method : FlightLegs.class.getMethods()) {
            names.add(method.getName());
        }
        for (Class<?> inside : FlightLegs.class.getDeclaredClasses()) {
            for (Method method : inside.getDeclaredMethods()) {
                Script.due(method + " has a name of its own", names.contains(method.getName()) ? 1 : 0, 0);
            }
        }
    }
}
