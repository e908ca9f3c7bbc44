import java.lang.reflect.Constructor;
import java.lang.reflect.Field;
import java.lang.reflect.Method;
import java.lang.reflect.Modifier;
import java.nio.file.Files;
import java.nio.file.Path;
import java.util.Set;
import java.util.TreeSet;

/** The face is the document's and no more, and the source keeps out of what LANGUAGE.md forbids. */
public final class FaceTest {
    private static final String[] FACE = {
        "int tide(int,int) IndexOutOfBoundsException IllegalArgumentException",
        "int price(int,int) IndexOutOfBoundsException IllegalArgumentException",
        "int wind(int) IllegalArgumentException",
        "int turbine() IllegalStateException",
        "int gate(int,int) IndexOutOfBoundsException IllegalArgumentException",
        "int repair(int) IndexOutOfBoundsException",
        "boolean run(int) IllegalArgumentException",
        "int limit(int) IllegalArgumentException",
        "int sell(int,int,int) IndexOutOfBoundsException IllegalArgumentException IllegalStateException",
        "int pass(int) IllegalArgumentException IllegalStateException",
        "int now()",
        "int made(int) IndexOutOfBoundsException",
        "int madeAnew(int) IndexOutOfBoundsException",
        "int sold(int) IndexOutOfBoundsException",
        "int bought(int) IndexOutOfBoundsException",
        "int head(int) IndexOutOfBoundsException",
        "int about(int,int) IndexOutOfBoundsException IllegalArgumentException",
        "int closed()",
        "int money()"};
    private static final String[] FORBIDDEN = {"import ", "package ", "->", "::", "catch", "finally", "synchronized",
        "Float.", "Double.", "System.", "Exact(", "float[]", "@"};

    public static void main(String[] args) throws Exception {
        theClass();
        theMethods();
        theFields();
        theSource();
        Check.end();
    }

    private static void theClass() {
        Class<?> face = TidegateBourse.class;
        Check.due("modifiers of the class", face.getModifiers(), Modifier.PUBLIC | Modifier.FINAL);
        Check.due("superclass", face.getSuperclass(), Object.class);
        Check.due("interfaces", face.getInterfaces().length, 0);
        Constructor<?>[] makers = face.getDeclaredConstructors();
        Check.due("constructors", makers.length, 1);
        Check.due("the constructor", makers[0], "public TidegateBourse()");
    }

    private static void theMethods() {
        Set<String> due = new TreeSet<>(Set.of(FACE));
        Set<String> got = new TreeSet<>();
        Set<String> names = new TreeSet<>();
        for (Method method : TidegateBourse.class.getDeclaredMethods()) {
            boolean open = !Modifier.isPrivate(method.getModifiers());
            if (open) {
                got.add(described(method));
                Check.due("modifiers of " + method.getName(), method.getModifiers(), Modifier.PUBLIC);
            }
            Check.due("the only " + method.getName(), names.add(method.getName()), true);
        }
        Check.due("public methods", got, due);
    }

    private static String described(Method method) {
        StringBuilder text = new StringBuilder();
        text.append(method.getReturnType().getSimpleName()).append(' ').append(method.getName()).append('(');
        for (Class<?> type : method.getParameterTypes()) {
            text.append(text.charAt(text.length() - 1) == '(' ? "" : ",").append(type.getSimpleName());
        }
        text.append(')');
        for (Class<?> type : method.getExceptionTypes()) {
            text.append(' ').append(type.getSimpleName());
        }
        return text.toString();
    }

    private static void theFields() {
        int own = 0;
        for (Field field : TidegateBourse.class.getDeclaredFields()) {
            int modifiers = field.getModifiers();
            Check.due(field.getName() + " is private", Modifier.isPrivate(modifiers), true);
            if (Modifier.isStatic(modifiers)) {
                Check.due(field.getName() + " is an int constant", Modifier.isFinal(modifiers)
                        && field.getType() == int.class, true);
            } else {
                own++;
            }
        }
        Check.due("at most twenty fields", own <= 20, true);
    }

    private static void theSource() throws Exception {
        String source = Files.readString(Path.of("src/main/java/TidegateBourse.java"));
        for (String word : FORBIDDEN) {
            Check.due("the source holds " + word, source.contains(word), false);
        }
        for (String line : source.split("\n")) {
            Check.due("a line's length: " + line, line.length() <= 120, true);
        }
    }
}
