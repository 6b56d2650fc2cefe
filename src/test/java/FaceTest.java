import java.io.IOException;
import java.lang.reflect.Constructor;
import java.lang.reflect.Field;
import java.lang.reflect.Method;
import java.lang.reflect.Modifier;
import java.nio.file.Files;
import java.nio.file.Path;
import java.util.Arrays;
import java.util.Set;
import java.util.TreeSet;

/** The face of the class, as the document tells it, and rules of LANGUAGE.md that a look at the class can find broken. */
public final class FaceTest {
    private static final String[] METHODS = {
        "int site(int,int,int) IllegalArgumentException IllegalStateException",
        "void move(int,int,int) IndexOutOfBoundsException IllegalArgumentException",
        "int weight(int,int) IndexOutOfBoundsException IllegalArgumentException",
        "int capacity(int,int) IndexOutOfBoundsException IllegalArgumentException",
        "int balance(int,int) IllegalArgumentException IllegalStateException",
        "int sites()",
        "int ofSite(int,int) IndexOutOfBoundsException IllegalArgumentException",
        "int power(int,int,int) IndexOutOfBoundsException IllegalArgumentException",
        "int owner(int,int) IllegalArgumentException",
        "int share(int) IndexOutOfBoundsException",
        "int shareAnew(int) IndexOutOfBoundsException",
        "int inRow(int,int,boolean) IndexOutOfBoundsException IllegalArgumentException",
        "boolean isHidden(int) IndexOutOfBoundsException",
        "boolean hasBorder(int,int) IndexOutOfBoundsException",
        "int why(int,int) IndexOutOfBoundsException",
        "long ofEnd(int,int,int,int) IndexOutOfBoundsException IllegalArgumentException IllegalStateException",
        "int beside(int) IndexOutOfBoundsException",
        "int disorder()",
        "int would(int,int) IllegalArgumentException IllegalStateException",
        "char sign(int,int) IndexOutOfBoundsException",
    };
    private static final String[] NEVER = {
        "package ", "->", "::", "finally", "synchronized", "assert ", "static {", "hashCode", "Exact(", "getMessage",
    };
    private static final Check check = new Check("FaceTest");

    public static void main(String[] args) throws IOException {
        constants();
        methods();
        membersOfTheFace();
        classesInside();
        source();
        check.end();
    }

    private static void constants() {
        check.due("NONE", PowerPlot.NONE, -1);
        check.due("BOX", PowerPlot.BOX, -2);
        check.due("SAME", PowerPlot.SAME, -3);
    }

    private static void methods() {
        Set<String> got = new TreeSet<>();
        for (Method method : PowerPlot.class.getDeclaredMethods()) {
            if (!Modifier.isPrivate(method.getModifiers())) {
                check.due(method + " is public and of the object", method.getModifiers(), Modifier.PUBLIC);
                got.add(text(method));
            }
        }
        check.due("the methods", got.toString(), new TreeSet<>(Arrays.asList(METHODS)).toString());
    }

    private static String text(Method method) {
        StringBuilder text = new StringBuilder(method.getReturnType().getSimpleName() + " " + method.getName() + "(");
        for (Class<?> type : method.getParameterTypes()) {
            text.append(text.charAt(text.length() - 1) == '(' ? "" : ",").append(type.getSimpleName());
        }
        text.append(")");
        for (Class<?> type : method.getExceptionTypes()) {
            text.append(" ").append(type.getSimpleName());
        }
        return text.toString();
    }

    private static void membersOfTheFace() {
        check.due("the class's modifiers", PowerPlot.class.getModifiers(), Modifier.PUBLIC | Modifier.FINAL);
        check.due("its class above it", PowerPlot.class.getSuperclass().getName(), "java.lang.Object");
        check.due("its interfaces", PowerPlot.class.getInterfaces().length, 0);
        Constructor<?>[] constructors = PowerPlot.class.getDeclaredConstructors();
        check.due("constructors", constructors.length, 1);
        check.due("the constructor's modifiers", constructors[0].getModifiers(), Modifier.PUBLIC);
        check.due("the constructor's parameters", constructors[0].getParameterCount(), 0);
        Set<String> constants = new TreeSet<>();
        for (Field field : PowerPlot.class.getDeclaredFields()) {
            if (!Modifier.isPrivate(field.getModifiers())) {
                check.due(field + "'s modifiers", field.getModifiers(), Modifier.PUBLIC | Modifier.STATIC | Modifier.FINAL);
                constants.add(field.getType().getSimpleName() + " " + field.getName());
            }
        }
        check.due("the constants", constants.toString(), "[int BOX, int NONE, int SAME]");
    }

    private static void classesInside() {
        Set<String> face = new TreeSet<>();
        for (Method method : PowerPlot.class.getMethods()) {
            face.add(method.getName());
        }
        check.due("at most twelve classes", PowerPlot.class.getDeclaredClasses().length <= 11, true);
        noPrivateMethodNamedAs(face, PowerPlot.class);
        fieldsOf(PowerPlot.class);
        for (Class<?> inside : PowerPlot.class.getDeclaredClasses()) {
            check.due(inside + " is static", Modifier.isStatic(inside.getModifiers()), true);
            int open = Modifier.PUBLIC | Modifier.PROTECTED;
            check.due(inside + " is not public", inside.getModifiers() & open, 0);
            noPrivateMethodNamedAs(face, inside);
            fieldsOf(inside);
        }
    }

    private static void noPrivateMethodNamedAs(Set<String> face, Class<?> type) {
        for (Method method : type.getDeclaredMethods()) {
            if (Modifier.isPrivate(method.getModifiers())) {
                check.due(method + " is named as one of the face", face.contains(method.getName()), false);
            }
        }
    }

    private static void fieldsOf(Class<?> type) {
        int own = 0;
        for (Field field : type.getDeclaredFields()) {
            boolean isStatic = Modifier.isStatic(field.getModifiers());
            check.due(field + " is static and not final", isStatic && !Modifier.isFinal(field.getModifiers()), false);
            own += isStatic ? 0 : 1;
        }
        check.due(type + " has at most twenty fields", own <= 20, true);
    }

    /** Without comments, what stands within texts, and the arrows of a switch. */
    private static String code(String source) {
        return source.replaceAll("(?s)/\\*.*?\\*/", "").replaceAll("//[^\n]*", "").replaceAll("\"[^\"\n]*\"", "\"\"")
            .replaceAll("(case [^;{}]*?|default )->", "$1");
    }

    private static void source() throws IOException {
        String text = code(Files.readString(Path.of("src/main/java/PowerPlot.java")));
        for (String never : NEVER) {
            check.due("the source holds <" + never + ">", text.contains(never), false);
        }
        for (int i = 0; i < text.length(); i++) {
            if (text.charAt(i) > 126) {
                check.due("a sign of the source at " + i, text.charAt(i), ' ');
            }
        }
    }
}
