import java.lang.reflect.Constructor;
import java.lang.reflect.Field;
import java.lang.reflect.Method;
import java.lang.reflect.Modifier;
import java.util.Set;
import java.util.TreeSet;

/** The face of the class, as the document and rules 1 and 5 of LANGUAGE.md want it. */
final class FaceTests {
    private static final String[] FACE = {
        "char setGround(int,int,char)", "char groundAt(int,int)", "int heatUp(int,int,int)",
        "int heatAt(int,int)", "int embersAt(int,int)", "int allHeat()", "int allHeatByAccounts()",
        "int cellAtRank(int)", "int refusalReason()", "int refusalDetail()", "int setBorder(int,int)",
        "int border(int)", "int lostBy(int)", "int pass(int)", "int ticks()", "int relapses()",
        "int ticksUntilBelow(int)", "long cellBits(int)", "int regions(int)", "int regionsByUnions(int)",
        "int holes(int)", "int holesBySquares(int)", "int contourLength(int)",
        "int contourLengthByPairs(int)", "int regionSize(int,int,int)", "int coolestPeak(int,int,int,int)",
        "int coolestPeakByTrying(int,int,int,int)", "int legendSpread(int)", "int legendSpreadByTable(int)",
        "int classBegin(int,int)", "int classOf(int,int,int)", "int append(char)", "int run()",
        "int errorPosition()", "int failedCommand()", "int describeRow(int)", "int describeLegend(int)",
        "char lineAt(int)", "double meanHeat()", "float levelShare(int)", "boolean isConsistent()",
        "int undo()", "int save()", "int restore()",
    };
    private final Tally tally;

    private FaceTests(Tally tally) {
        this.tally = tally;
    }

    static void run(Tally tally) {
        FaceTests tests = new FaceTests(tally);
        tests.methods();
        tests.constructors();
        tests.classesInside();
    }

    private void methods() {
        Set<String> faceNames = new TreeSet<>();
        Set<String> declared = new TreeSet<>();
        for (String method : FACE) {
            faceNames.add(method.substring(method.indexOf(' ') + 1, method.indexOf('(')));
        }
        for (Method method : MapSanatorium.class.getDeclaredMethods()) {
            if (Modifier.isPrivate(method.getModifiers())) {
                tally.due("rule 1: " + method.getName(), 0, () -> Tally.truth(faceNames.contains(method.getName())));
            } else {
                declared.add(signature(method));
                tally.due("rule 1: " + method.getName() + " is public", 1,
                        () -> Tally.truth(Modifier.isPublic(method.getModifiers())));
            }
        }
        tally.due("the face", new TreeSet<>(Set.of(FACE)).toString(), declared.toString());
    }

    private static String signature(Method method) {
        StringBuilder parameters = new StringBuilder();
        for (Class<?> parameter : method.getParameterTypes()) {
            parameters.append(parameters.length() == 0 ? "" : ",").append(parameter);
        }
        return method.getReturnType() + " " + method.getName() + "(" + parameters + ")";
    }

    private void constructors() {
        Constructor<?>[] constructors = MapSanatorium.class.getDeclaredConstructors();
        tally.due("one constructor", 1, () -> constructors.length);
        tally.due("without parameters", 0, () -> constructors[0].getParameterCount());
        tally.due("public", 1, () -> Tally.truth(Modifier.isPublic(constructors[0].getModifiers())));
        int modifiers = MapSanatorium.class.getModifiers();
        tally.due("a public final class", 1,
                () -> Tally.truth(Modifier.isPublic(modifiers) && Modifier.isFinal(modifiers)));
        dueFields(MapSanatorium.class);
        for (Field field : MapSanatorium.class.getDeclaredFields()) {
            tally.due("rule 1: " + field.getName(), 1, () -> Tally.truth(Modifier.isPrivate(field.getModifiers())));
        }
    }

    private void classesInside() {
        Class<?>[] inside = MapSanatorium.class.getDeclaredClasses();
        tally.due("rule 11: classes", 1, () -> Tally.truth(inside.length < 12));
        for (Class<?> one : inside) {
            int modifiers = one.getModifiers();
            tally.due("rule 1: " + one.getSimpleName(), 1,
                    () -> Tally.truth(Modifier.isStatic(modifiers) && !Modifier.isPublic(modifiers)
                            && !Modifier.isProtected(modifiers)));
            dueFields(one);
            for (Method method : one.getDeclaredMethods()) {
                tally.due("rule 1: " + method, 0, () -> Tally.truth(isOnFace(method.getName())));
            }
        }
    }

    private static boolean isOnFace(String name) {
        for (String method : FACE) {
            if (method.contains(" " + name + "(")) {
                return true;
            }
        }
        return false;
    }

    private void dueFields(Class<?> one) {
        int own = 0;
        for (Field field : one.getDeclaredFields()) {
            if (Modifier.isStatic(field.getModifiers())) {
                tally.due("rule 5: " + field.getName(), 1, () -> Tally.truth(Modifier.isFinal(field.getModifiers())));
            } else {
                own++;
            }
        }
        int fields = own;
        tally.due("rule 11: fields of " + one.getSimpleName(), 1, () -> Tally.truth(fields <= 20));
    }
}
