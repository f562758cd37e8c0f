import java.lang.reflect.Constructor;
import java.lang.reflect.Field;
import java.lang.reflect.Method;
import java.lang.reflect.Modifier;
import java.util.ArrayList;
import java.util.List;
import java.util.TreeSet;

/** The public face is the document's, word for word, and there is nothing else that is not private. */
public final class FaceTest {
    private static final String BOUNDS = " throws IndexOutOfBoundsException";
    private static final String[] FACE = {
        "int addExam(int, int) throws IllegalArgumentException IllegalStateException",
        "int addFork(int, int, int)" + BOUNDS + " IllegalArgumentException IllegalStateException",
        "int grade(int, int)" + BOUNDS + " IllegalArgumentException IllegalStateException",
        "int weigh(int, int)" + BOUNDS + " IllegalArgumentException",
        "int enroll(int)" + BOUNDS + " IllegalStateException",
        "int turn(int, boolean)" + BOUNDS + " IllegalStateException",
        "int goBack(int)" + BOUNDS + " IllegalStateException",
        "int follow(int)" + BOUNDS,
        "int places()",
        "int exams()",
        "int graded()",
        "int students()",
        "int atExams()",
        "boolean isExam(int)" + BOUNDS,
        "boolean isGraded(int)" + BOUNDS,
        "int gradeOf(int)" + BOUNDS,
        "int leftOf(int)" + BOUNDS,
        "int rightOf(int)" + BOUNDS,
        "int weightOf(int)" + BOUNDS,
        "int placeOf(int)" + BOUNDS,
        "int passedBy(int)" + BOUNDS,
        "int sureGrade(int)" + BOUNDS,
        "int hope(int)" + BOUNDS,
        "boolean reaches(int, int)" + BOUNDS,
        "int examsFrom(int)" + BOUNDS,
        "int risk(int, boolean)" + BOUNDS,
        "boolean planTurnsRight(int)" + BOUNDS,
        "int planLeadsTo(int)" + BOUNDS,
        "int riskiestFork()",
        "int hindsight(int)" + BOUNDS,
        "int regretOf(int)" + BOUNDS + " IllegalStateException",
        "int worstFork(int)" + BOUNDS + " IllegalStateException",
        "int allRegret()",
        "double meanGrade()",
        "long digest()",
    };

    public static void main(String[] args) {
        Checks checks = new Checks();
        checks.sameText("the class", Modifier.toString(ExamGarden.class.getModifiers()), "public final");
        checks.sameText("the constructors", constructors(), "[public ExamGarden()]");
        checks.sameText("the methods", methods().toString(), new TreeSet<>(List.of(FACE)).toString());
        checks.sameText("fields that are not private", openFields().toString(), "[]");
        checks.sameText("private methods that bear a public name", namesakes().toString(), "[]");
        checks.sameText("the document's declarations not in the source", notInSource().toString(), "[]");
        checks.finish();
    }

    private static String constructors() {
        List<String> found = new ArrayList<>();
        for (Constructor<?> made : ExamGarden.class.getDeclaredConstructors()) {
            found.add(made.toString());
        }
        return found.toString();
    }

    private static TreeSet<String> methods() {
        TreeSet<String> found = new TreeSet<>();
        for (Method method : ExamGarden.class.getDeclaredMethods()) {
            if (!Modifier.isPrivate(method.getModifiers())) {
                found.add(lineOf(method));
            }
        }
        return found;
    }

    private static String lineOf(Method method) {
        boolean isPlain = method.getModifiers() == Modifier.PUBLIC;
        StringBuilder line = new StringBuilder(isPlain ? "" : Modifier.toString(method.getModifiers()) + " ");
        line.append(method.getReturnType().getSimpleName()).append(' ').append(method.getName()).append('(');
        line.append(namesOf(method.getParameterTypes(), ", ")).append(')');
        if (method.getExceptionTypes().length > 0) {
            line.append(" throws ").append(namesOf(method.getExceptionTypes(), " "));
        }
        return line.toString();
    }

    private static String namesOf(Class<?>[] types, String between) {
        List<String> names = new ArrayList<>();
        for (Class<?> type : types) {
            names.add(type.getSimpleName());
        }
        return String.join(between, names);
    }

    private static List<String> openFields() {
        List<String> found = new ArrayList<>();
        for (Field field : ExamGarden.class.getDeclaredFields()) {
            if (!Modifier.isPrivate(field.getModifiers())) {
                found.add(field.getName());
            }
        }
        return found;
    }

    /** The names of arguments and the order of exceptions too; a declaration may stand on two lines. */
    private static List<String> notInSource() {
        String source = String.join(" ", new Page(Page.SOURCE).lines).replaceAll(" +", " ");
        List<String> found = new ArrayList<>();
        for (String line : Page.face()) {
            if (!source.contains(line.replace(";", " {"))) {
                found.add(line);
            }
        }
        return found;
    }

    private static List<String> namesakes() {
        List<String> publicNames = new ArrayList<>();
        for (Method method : ExamGarden.class.getMethods()) {
            publicNames.add(method.getName());
        }
        List<String> found = new ArrayList<>();
        for (Method method : ExamGarden.class.getDeclaredMethods()) {
            if (Modifier.isPrivate(method.getModifiers()) && publicNames.contains(method.getName())) {
                found.add(method.getName());
            }
        }
        return found;
    }
}
