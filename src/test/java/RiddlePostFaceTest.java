import java.lang.reflect.Constructor;
import java.lang.reflect.Field;
import java.lang.reflect.Method;
import java.lang.reflect.Modifier;
import java.util.ArrayList;
import java.util.List;
import java.util.Set;
import java.util.TreeSet;

/** The class has the document's face, with its throws clauses, and no other member that can be seen. */
public final class RiddlePostFaceTest {
    private static final String[] FACE = {
        "int setParent(int,int) IndexOutOfBoundsException IllegalArgumentException",
        "int setAges(int,int,int) IndexOutOfBoundsException IllegalArgumentException",
        "int setAnswer(int,int,int) IndexOutOfBoundsException IllegalArgumentException",
        "int setReference(int,int,int) IndexOutOfBoundsException IllegalArgumentException",
        "int takeAway(int) IndexOutOfBoundsException IllegalStateException",
        "int solve(int) IndexOutOfBoundsException",
        "int forget(int) IndexOutOfBoundsException IllegalStateException",
        "int pass(int) IllegalArgumentException IllegalStateException",
        "int time()",
        "int parentOf(int) IndexOutOfBoundsException",
        "int depthOf(int) IndexOutOfBoundsException",
        "int kindOf(int) IndexOutOfBoundsException",
        "int valueOf(int) IndexOutOfBoundsException",
        "int truthOf(int) IndexOutOfBoundsException",
        "int rememberedOf(int) IndexOutOfBoundsException",
        "int ticksLeftOf(int) IndexOutOfBoundsException",
        "int referralLeft(int) IndexOutOfBoundsException",
        "int remembered()",
        "int rememberedByAccount()",
        "int ticksUntilForgetting()",
        "boolean isOutOfDate(int) IndexOutOfBoundsException",
        "int solved()",
        "int questions()",
        "int hits()",
        "int questionsTo(int) IndexOutOfBoundsException",
        "double meanQuestions()",
        "int wouldSolve(int) IndexOutOfBoundsException",
        "int costOf(int) IndexOutOfBoundsException",
        "int ticksUntilTruth(int) IndexOutOfBoundsException",
        "int append(int) IllegalArgumentException IllegalStateException",
        "int clearText()",
        "int firstError()",
        "int runActs() IllegalStateException",
        "int undo() IllegalStateException",
        "long digest()"};
    private static final String[] CONSTANTS = {"NONE", "TOO_LONG", "NOTHING", "ANSWER", "REFERENCE", "REFUSAL"};

    private static final Check CHECK = new Check();

    private RiddlePostFaceTest() {
    }

    public static void main(String[] args) {
        theClass();
        theMethods();
        theConstants();
        theClassesInside();
        CHECK.end("RiddlePostFaceTest");
    }

    private static void theClass() {
        int modifiers = RiddlePost.class.getModifiers();
        CHECK.same("public and final", Modifier.isPublic(modifiers) && Modifier.isFinal(modifiers), true);
        Constructor<?>[] constructors = RiddlePost.class.getDeclaredConstructors();
        CHECK.same("one constructor", constructors.length, 1);
        CHECK.same("a public one", Modifier.isPublic(constructors[0].getModifiers()), true);
        CHECK.same("without parameters", constructors[0].getParameterCount(), 0);
        CHECK.same("without exceptions", constructors[0].getExceptionTypes().length, 0);
    }

    private static String signature(Method method) {
        StringBuilder text = new StringBuilder(method.getReturnType().getName() + " " + method.getName() + "(");
        List<String> parameters = new ArrayList<>();
        for (Class<?> parameter : method.getParameterTypes()) {
            parameters.add(parameter.getName());
        }
        text.append(String.join(",", parameters)).append(")");
        for (Class<?> exception : method.getExceptionTypes()) {
            text.append(" ").append(exception.getSimpleName());
        }
        return text.toString();
    }

    private static void theMethods() {
        Set<String> due = new TreeSet<>(List.of(FACE));
        Set<String> got = new TreeSet<>();
        Set<String> publicNames = new TreeSet<>();
        for (Method method : RiddlePost.class.getDeclaredMethods()) {
            if (!Modifier.isPrivate(method.getModifiers())) {
                got.add(signature(method) + (Modifier.isStatic(method.getModifiers()) ? " static" : ""));
                publicNames.add(method.getName());
                CHECK.same(method.getName() + " is public", Modifier.isPublic(method.getModifiers()), true);
            }
        }
        CHECK.sameText("the methods", String.join("\n", got), String.join("\n", due));
        for (Method method : RiddlePost.class.getDeclaredMethods()) {
            if (Modifier.isPrivate(method.getModifiers())) {
                CHECK.same("private " + method.getName() + " has a public name",
                        publicNames.contains(method.getName()), false);
            }
        }
    }

    private static void theConstants() {
        Set<String> got = new TreeSet<>();
        for (Field field : RiddlePost.class.getDeclaredFields()) {
            int modifiers = field.getModifiers();
            if (Modifier.isStatic(modifiers)) {
                CHECK.same(field.getName() + " is final", Modifier.isFinal(modifiers), true);
            }
            if (!Modifier.isPrivate(modifiers)) {
                got.add(field.getName());
                CHECK.same(field.getName() + " is a public static int", Modifier.isPublic(modifiers)
                        && Modifier.isStatic(modifiers) && field.getType() == int.class, true);
            }
        }
        CHECK.sameText("the constants", got.toString(), new TreeSet<>(List.of(CONSTANTS)).toString());
    }

    private static void theClassesInside() {
        Class<?>[] classes = RiddlePost.class.getDeclaredClasses();
        CHECK.same("not more than twelve classes", classes.length <= 11, true);
        for (Class<?> inside : classes) {
            int modifiers = inside.getModifiers();
            CHECK.same(inside.getName() + " is static", Modifier.isStatic(modifiers), true);
            CHECK.same(inside.getName() + " is not public or protected",
                    Modifier.isPublic(modifiers) || Modifier.isProtected(modifiers), false);
            CHECK.same(inside.getName() + " has few fields", inside.getDeclaredFields().length <= 20, true);
            for (Method method : inside.getDeclaredMethods()) {
                CHECK.same(inside.getName() + "." + method.getName() + " has few parameters",
                        method.getParameterCount() <= 7, true);
            }
        }
    }
}
