import java.lang.reflect.Constructor;
import java.lang.reflect.Field;
import java.lang.reflect.Method;
import java.lang.reflect.Modifier;
import java.util.Set;
import java.util.TreeSet;

/** The face of the class, as the document and rules 1 and 5 of LANGUAGE.md want it. */
final class FaceTests {
    /** Exceptions stand in the document's order, without the word Exception at their ends. */
    private static final String[] FACE = {
        "char setGround(int,int,char) throws IndexOutOfBounds,IllegalArgument,UnsupportedOperation",
        "char groundAt(int,int) throws IndexOutOfBounds",
        "int heatUp(int,int,int) throws IndexOutOfBounds,IllegalArgument,UnsupportedOperation",
        "int heatAt(int,int) throws IndexOutOfBounds", "int embersAt(int,int) throws IndexOutOfBounds",
        "int allHeat()", "int allHeatByAccounts()", "int cellAtRank(int) throws NoSuchElement",
        "int refusalReason() throws NoSuchElement", "int refusalDetail() throws NoSuchElement",
        "int setBorder(int,int) throws IndexOutOfBounds,IllegalArgument",
        "int border(int) throws IndexOutOfBounds", "int lostBy(int) throws IndexOutOfBounds",
        "int pass(int) throws IllegalArgument", "int ticks()", "int relapses()",
        "int ticksUntilBelow(int) throws IllegalArgument,NoSuchElement",
        "long cellBits(int) throws IllegalArgument", "int regions(int) throws IllegalArgument",
        "int regionsByUnions(int) throws IllegalArgument", "int holes(int) throws IllegalArgument",
        "int holesBySquares(int) throws IllegalArgument", "int contourLength(int) throws IllegalArgument",
        "int contourLengthByPairs(int) throws IllegalArgument",
        "int regionSize(int,int,int) throws IndexOutOfBounds,IllegalArgument",
        "int coolestPeak(int,int,int,int) throws IndexOutOfBounds,NoSuchElement",
        "int coolestPeakByTrying(int,int,int,int) throws IndexOutOfBounds,NoSuchElement",
        "int legendSpread(int) throws IllegalArgument,IllegalState",
        "int legendSpreadByTable(int) throws IllegalArgument,IllegalState",
        "int classBegin(int,int) throws IllegalArgument,IllegalState,NoSuchElement",
        "int classOf(int,int,int) throws IndexOutOfBounds,IllegalArgument,IllegalState,UnsupportedOperation",
        "int append(char) throws IllegalArgument,IllegalState",
        "int run() throws IllegalArgument,IllegalState", "int errorPosition() throws NoSuchElement",
        "int failedCommand() throws NoSuchElement", "int describeRow(int) throws IndexOutOfBounds",
        "int describeLegend(int) throws IllegalArgument,IllegalState",
        "char lineAt(int) throws IndexOutOfBounds", "double meanHeat() throws Arithmetic",
        "float levelShare(int) throws IllegalArgument", "boolean isConsistent()",
        "int undo() throws IllegalState", "int save()", "int restore() throws IllegalState",
    };
    private final Tally tally;

    private FaceTests(Tally tally) {
        this.tally = tally;
    }

    static void run(Tally tally) {
        FaceTests tests = new FaceTests(tally);
        tests.methods();
        tests.constructors();
        tests.classesInside();
    }

    private void methods() {
        Set<String> faceNames = new TreeSet<>();
        Set<String> declared = new TreeSet<>();
        for (String method : FACE) {
            faceNames.add(method.substring(method.indexOf(' ') + 1, method.indexOf('(')));
        }
        for (Method method : MapSanatorium.class.getDeclaredMethods()) {
            if (Modifier.isPrivate(method.getModifiers())) {
                tally.due("rule 1: " + method.getName(), 0, () -> Tally.truth(faceNames.contains(method.getName())));
            } else {
                declared.add(signature(method));
                tally.due("rule 1: " + method.getName() + " is public", 1,
                        () -> Tally.truth(Modifier.isPublic(method.getModifiers())));
            }
        }
        tally.due("the face", new TreeSet<>(Set.of(FACE)).toString(), declared.toString());
    }

    private static String signature(Method method) {
        StringBuilder parameters = new StringBuilder();
        for (Class<?> parameter : method.getParameterTypes()) {
            parameters.append(parameters.length() == 0 ? "" : ",").append(parameter);
        }
        StringBuilder exceptions = new StringBuilder();
        for (Class<?> exception : method.getExceptionTypes()) {
            exceptions.append(exceptions.length() == 0 ? " throws " : ",")
                    .append(exception.getSimpleName().replace("Exception", ""));
        }
        return method.getReturnType() + " " + method.getName() + "(" + parameters + ")" + exceptions;
    }

    private void constructors() {
        Constructor<?>[] constructors = MapSanatorium.class.getDeclaredConstructors();
        tally.due("one constructor", 1, () -> constructors.length);
        tally.due("without parameters", 0, () -> constructors[0].getParameterCount());
        tally.due("public", 1, () -> Tally.truth(Modifier.isPublic(constructors[0].getModifiers())));
        int modifiers = MapSanatorium.class.getModifiers();
        tally.due("a public final class", 1,
                () -> Tally.truth(Modifier.isPublic(modifiers) && Modifier.isFinal(modifiers)));
        dueFields(MapSanatorium.class);
        for (Field field : MapSanatorium.class.getDeclaredFields()) {
            tally.due("rule 1: " + field.getName(), 1, () -> Tally.truth(Modifier.isPrivate(field.getModifiers())));
        }
    }

    private void classesInside() {
        Class<?>[] inside = MapSanatorium.class.getDeclaredClasses();
        tally.due("rule 11: classes", 1, () -> Tally.truth(inside.length < 12));
        for (Class<?> one : inside) {
            int modifiers = one.getModifiers();
            tally.due("rule 1: " + one.getSimpleName(), 1,
                    () -> Tally.truth(Modifier.isStatic(modifiers) && !Modifier.isPublic(modifiers)
                            && !Modifier.isProtected(modifiers)));
            dueFields(one);
            for (Method method : one.getDeclaredMethods()) {
                tally.due("rule 1: " + method, 0, () -> Tally.truth(isOnFace(method.getName())));
            }
        }
    }

    private static boolean isOnFace(String name) {
        for (String method : FACE) {
            if (method.contains(" " + name + "(")) {
                return true;
            }
        }
        return false;
    }

    private void dueFields(Class<?> one) {
        int own = 0;
        for (Field field : one.getDeclaredFields()) {
            if (Modifier.isStatic(field.getModifiers())) {
                tally.due("rule 5: " + field.getName(), 1, () -> Tally.truth(Modifier.isFinal(field.getModifiers())));
            } else {
                own++;
            }
        }
        int fields = own;
        tally.due("rule 11: fields of " + one.getSimpleName(), 1, () -> Tally.truth(fields <= 20));
    }
}
