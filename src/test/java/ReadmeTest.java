import java.io.IOException;
import java.lang.reflect.Method;
import java.lang.reflect.Modifier;
import java.nio.file.Files;
import java.nio.file.Path;
import java.util.regex.Matcher;
import java.util.regex.Pattern;
import javax.tools.JavaCompiler;
import javax.tools.ToolProvider;

/** The examples of README.md, one after the other: each compiles, and each call answers what stands behind it. */
public final class ReadmeTest {
    private static final String EXAMPLES = "ReadmeExamples";
    private static final Pattern BLOCK = Pattern.compile("(?s)```java\\n(.*?)```");
    private static final Pattern ROW = Pattern.compile("(?:int (\\w+) = )?(stairs\\..*\\));\\s+// (-?\\d+)(?:\\b.*)?");
    private static final Due due = new Due();

    public static void main(String[] args) throws Exception {
        due.sentence("README.md");
        String readme = Files.readString(Path.of("README.md"));
        due.holds("the examples compile", compiled(source(readme)));
        eachMethodIsNamed(readme);
        eachOrderIsOne(readme);
        Method run = Class.forName(EXAMPLES).getDeclaredMethod("run", Due.class);
        run.invoke(null, due);
        due.end();
    }

    private static String source(String readme) {
        StringBuilder body = new StringBuilder();
        Matcher block = BLOCK.matcher(readme);
        while (block.find()) for (String line : block.group(1).split("\n")) body.append(statement(line)).append('\n');
        return "final class " + EXAMPLES + " {\n    static void run(Due due) {\n" + body + "    }\n}\n";
    }

    /** A row with an answer becomes a check of it; any other one stands as it is. */
    private static String statement(String line) {
        Matcher row = ROW.matcher(line);
        if (!row.matches()) {
            due.holds("an answer can be read: " + line, !line.contains("//"));
            return line;
        }
        String name = row.group(1);
        String call = row.group(2);
        String check = "due.is(\"" + call + "\", " + (name == null ? call : name) + ", " + row.group(3) + ");";
        return name == null ? check : "int " + name + " = " + call + "; " + check;
    }

    /** They are put beside this test's own classes, where they are found. */
    private static boolean compiled(String source) throws IOException {
        Path classes = Path.of(System.getProperty("java.class.path"));
        Path file = classes.resolve(EXAMPLES + ".java");
        Files.writeString(file, source);
        JavaCompiler compiler = ToolProvider.getSystemJavaCompiler();
        return compiler.run(null, null, null, "-cp", classes.toString(), "-d", classes.toString(), file.toString()) == 0;
    }

    private static void eachMethodIsNamed(String readme) {
        for (Method method : KittenStairs.class.getDeclaredMethods()) {
            boolean hidden = Modifier.isPrivate(method.getModifiers());
            due.holds("it names " + method.getName(), hidden || readme.contains("`" + method.getName() + "`"));
        }
    }

    private static void eachOrderIsOne(String readme) {
        Matcher order = Pattern.compile("\\n\\| `([^` ]*\\d[^` ]*)` \\|").matcher(readme);
        StringBuilder letters = new StringBuilder();
        while (order.find()) {
            due.is("fault of " + order.group(1), Scenes.written(order.group(1)).fault(), KittenStairs.NONE);
            letters.append(order.group(1).charAt(0));
        }
        due.holds("it names an order of each kind, found " + letters, letters.toString().equals("kgnxpt"));
    }
}
