import java.lang.reflect.Method;
import java.lang.reflect.Modifier;
import java.nio.file.Files;
import java.nio.file.Path;

/** README.md's example answers what it says, line by line, and its table names each call of the face. */
public final class ReadmeTest {
    private static String readme = "";
    private static int exampleLines = 0;

    public static void main(String[] args) throws Exception {
        readme = Files.readString(Path.of("README.md"));
        theExample();
        theTable();
        Check.end();
    }

    private static void theExample() {
        TidegateBourse bourse = new TidegateBourse();
        line("TidegateBourse bourse = new TidegateBourse();", "", "");
        int turbine = bourse.turbine();
        line("int turbine = bourse.turbine();", turbine, "// 0");
        line("bourse.gate(turbine, 7);", bourse.gate(turbine, 7), "// 0,");
        line("bourse.tide(0, 80);", bourse.tide(0, 80), "// 0,");
        line("bourse.sell(0, 60, 12);", bourse.sell(0, 60, 12), "// 60 ");
        line("bourse.pass(1);", bourse.pass(1), "// 1:");
        line("bourse.made(0);", bourse.made(0), "// 70");
        line("bourse.bought(0);", bourse.bought(0), "// 0:");
        line("bourse.about(turbine, 1);", bourse.about(turbine, 1), "// 9,");
        line("Float.intBitsToFloat(bourse.money());", Float.intBitsToFloat(bourse.money()), "// 770.0:");
        int from = readme.indexOf("```java\n") + "```java\n".length();
        String example = readme.substring(from, readme.indexOf("```", from));
        Check.due("lines of the example", example.split("\n").length, exampleLines);
    }

    /** The line stands in README.md, and what it says behind the slashes begins with the answer. */
    private static void line(String code, Object answer, String said) {
        exampleLines++;
        int at = readme.indexOf(code);
        Check.due("README.md holds " + code, at >= 0, true);
        String rest = at < 0 ? "" : readme.substring(at + code.length(), readme.indexOf('\n', at)).trim();
        Check.due(code + " tells " + said, rest.startsWith(said), true);
        Check.due(code, answer, said.replaceAll("[/ :,]", ""));
    }

    private static void theTable() {
        int calls = 0;
        for (Method method : TidegateBourse.class.getDeclaredMethods()) {
            if (Modifier.isPublic(method.getModifiers())) {
                calls++;
                Check.due("the table names " + method.getName(), readme.contains("| `" + method.getName() + "("), true);
            }
        }
        int rows = readme.split("\n\\| `", -1).length - 1;
        Check.due("rows of the table", rows, calls);
    }
}
