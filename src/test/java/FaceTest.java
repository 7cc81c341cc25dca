import java.lang.reflect.Constructor;
import java.lang.reflect.Field;
import java.lang.reflect.Method;
import java.lang.reflect.Modifier;
import java.util.Arrays;
import java.util.Set;
import java.util.TreeSet;

/** The public face is the document's, and the class keeps what LANGUAGE.md says of its shape. */
public final class FaceTest {
    private static final String[] FACE = {
        "int know(int,int,int,int) IB IA",
        "int few(int,int,int) IB IA",
        "int surplus(int,int) IB IA",
        "int place(int,int) IB",
        "int learn(int,int,int,int) IB IA",
        "int relearn(int,int,int,int) IB IA",
        "int forget(int,int,int,int) IB IA",
        "int forgetIf(int,int,int,int,int) IB IA",
        "int forgetAll(int,int,int) IB IA",
        "int clear(int) IB",
        "int copy(int,int) IB",
        "int pour(int,int) IB",
        "boolean isKept(int,int,int,int,int) IB IA",
        "int worthOr(int,int,int,int,int) IB IA",
        "boolean confirm(int,int,int,int,int) IB IA",
        "int about(int,int) IB IA",
        "boolean has(int,int) IB",
        "int count(int,int,int) IB IA",
        "boolean isSame(int,int) IB",
        "int walk(int,int,int) IA",
        "int product(int,int,int) IA",
        "int rule(int,int) IB IA",
        "int forgetRule(int,int) IB IA",
        "int ledger(int,int) IB IA",
        "int ruleWorth(int,int,int) IB IA",
        "int addPart(int,int,int) IB IA",
        "int takePart(int,int) IB IA",
        "int layFirst(int,int) IB IA",
        "int next(int) IB",
        "int turn(int) IB",
        "int toUnlike(int) IB",
        "int toOdd(int) IB",
        "int copyDesk(int) IB",
        "int times(int,int) IB IA",
        "int way(int,int) IB IA",
        "String wayText(int) IB",
        "boolean isOf(int,int,int) IB IA",
        "boolean isSameWay()",
        "int tally(int) IA",
        "int knock()",
        "boolean isSound(int) IB",
        "long digest()",
    };

    public static void main(String[] args) {
        methodsAreTheDocuments();
        nothingElseIsSeen();
        shapeIsLet();
        Checks.finish("FaceTest");
    }

    private static void methodsAreTheDocuments() {
        Set<String> due = new TreeSet<>(Arrays.asList(FACE));
        Set<String> seen = new TreeSet<>();
        Set<String> hidden = new TreeSet<>();
        Set<String> names = new TreeSet<>();
        for (Method method : Sumlarder.class.getDeclaredMethods()) {
            if (Modifier.isPrivate(method.getModifiers())) {
                hidden.add(method.getName());
            } else {
                seen.add(written(method));
                names.add(method.getName());
                Checks.due(method + " is public alone", method.getModifiers(), Modifier.PUBLIC);
            }
        }
        Checks.due("the face", seen, due);
        for (Class<?> inside : Sumlarder.class.getDeclaredClasses()) {
            for (Method method : inside.getDeclaredMethods()) {
                hidden.add(method.getName());
            }
        }
        hidden.retainAll(names);
        Checks.due("hidden methods with a public name", hidden, Set.of());
    }

    private static String written(Method method) {
        StringBuilder text = new StringBuilder(method.getReturnType().getSimpleName());
        text.append(' ').append(method.getName()).append('(');
        String comma = "";
        for (Class<?> type : method.getParameterTypes()) {
            text.append(comma).append(type.getSimpleName());
            comma = ",";
        }
        text.append(')');
        for (Class<?> type : method.getExceptionTypes()) {
            text.append(type == IndexOutOfBoundsException.class ? " IB"
                    : type == IllegalArgumentException.class ? " IA" : " ?");
        }
        return text.toString();
    }

    private static void nothingElseIsSeen() {
        Checks.due("the class", Sumlarder.class.getModifiers(), Modifier.PUBLIC | Modifier.FINAL);
        Constructor<?>[] made = Sumlarder.class.getDeclaredConstructors();
        Checks.due("constructors", made.length, 1);
        Checks.due("constructor", made[0].toString(), "public Sumlarder()");
        for (Field field : Sumlarder.class.getDeclaredFields()) {
            Checks.due(field + " is private", Modifier.isPrivate(field.getModifiers()), true);
        }
        for (Class<?> inside : Sumlarder.class.getDeclaredClasses()) {
            int modifiers = inside.getModifiers();
            Checks.due(inside + " is static", Modifier.isStatic(modifiers), true);
            Checks.due(inside + " is hidden",
                    Modifier.isPublic(modifiers) || Modifier.isProtected(modifiers), false);
        }
    }

    private static void shapeIsLet() {
        Checks.due("few classes", Sumlarder.class.getDeclaredClasses().length <= 11, true);
        shapeOf(Sumlarder.class);
        for (Class<?> inside : Sumlarder.class.getDeclaredClasses()) {
            shapeOf(inside);
        }
    }

    private static void shapeOf(Class<?> one) {
        int fields = 0;
        for (Field field : one.getDeclaredFields()) {
            if (Modifier.isStatic(field.getModifiers())) {
                Checks.due(field + " is final", Modifier.isFinal(field.getModifiers()), true);
            } else {
                fields++;
            }
        }
        Checks.due(one + " has few fields", fields <= 20, true);
        for (Method method : one.getDeclaredMethods()) {
            Checks.due(method + " has few parameters", method.getParameterCount() <= 7, true);
        }
    }
}
