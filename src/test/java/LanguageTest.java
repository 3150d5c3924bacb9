import java.io.IOException;
import java.lang.reflect.Executable;
import java.lang.reflect.Field;
import java.lang.reflect.Method;
import java.lang.reflect.Modifier;
import java.nio.charset.StandardCharsets;
import java.nio.file.Files;
import java.nio.file.Path;
import java.util.ArrayList;
import java.util.Arrays;
import java.util.List;
import java.util.Set;
import java.util.TreeSet;
import java.util.regex.Matcher;
import java.util.regex.Pattern;

/** The face of the class, and those rules of ../shared/LANGUAGE.md that can be told from its text. */
public final class LanguageTest {
    private static final Path SOURCE = Path.of("src/main/java/KittenStairs.java");
    private static final Due due = new Due();

    public static void main(String[] args) throws IOException {
        face();
        constants();
        classesInside();
        text();
        due.end();
    }

    private static void face() {
        due.is("modifiers", KittenStairs.class.getModifiers(), Modifier.PUBLIC | Modifier.FINAL);
        Set<String> expected = new TreeSet<>(List.of("set(int,int)", "kitten(int)", "leap(int,int)", "nap(int)", "snip(int,int)",
            "plan(int,int,int)", "pass(int)", "of(int,int)", "ofEdge(int,int)", "strand(int,int)", "bound(int,int)",
            "planned(int,int)", "count(int)", "why(int,int)", "ifLeapt(int,int,int)", "frees(int,int)", "quietIn()",
            "stepIn(int,int)", "thickest()", "put(long)", "wipe()", "fault()", "carryOut()", "undo()", "save(int)",
            "restore(int)"));
        Set<String> found = new TreeSet<>();
        Set<String> names = new TreeSet<>();
        for (Method method : KittenStairs.class.getDeclaredMethods()) {
            if (Modifier.isPrivate(method.getModifiers())) continue;
            due.is("modifiers of " + method, method.getModifiers(), Modifier.PUBLIC);
            due.holds(method + " returns an int", method.getReturnType() == int.class);
            found.add(method.getName() + parameters(method));
            names.add(method.getName());
        }
        due.holds("the methods are " + expected + ", found " + found, found.equals(expected));
        for (Class<?> type : allClasses()) {
            for (Method method : type.getDeclaredMethods()) {
                boolean hidden = Modifier.isPrivate(method.getModifiers());
                due.holds("no private method bears a public one's name: " + method, !hidden || !names.contains(method.getName()));
            }
        }
        due.is("constructors", KittenStairs.class.getDeclaredConstructors().length, 1);
        due.is("public constructors without parameters", KittenStairs.class.getConstructors()[0].getParameterCount(), 0);
    }

    private static String parameters(Method method) {
        List<String> types = new ArrayList<>();
        for (Class<?> type : method.getParameterTypes()) types.add(type.getName());
        return "(" + String.join(",", types) + ")";
    }

    private static void constants() {
        due.is("NO_SUCH", KittenStairs.NO_SUCH, -1);
        due.is("BAD_VALUE", KittenStairs.BAD_VALUE, -2);
        due.is("BAD_TEXT", KittenStairs.BAD_TEXT, -3);
        due.is("TOO_MANY", KittenStairs.TOO_MANY, -4);
        due.is("NOT_POSSIBLE", KittenStairs.NOT_POSSIBLE, -5);
        due.is("NONE", KittenStairs.NONE, -6);
        due.is("LEAP", KittenStairs.LEAP, 0);
        due.is("BIND", KittenStairs.BIND, 1);
        due.is("NAP", KittenStairs.NAP, 2);
        due.is("VIM", KittenStairs.VIM, 3);
        int open = 0;
        for (Field field : KittenStairs.class.getDeclaredFields()) {
            if (Modifier.isPrivate(field.getModifiers())) continue;
            open++;
            due.is("modifiers of " + field, field.getModifiers(), Modifier.PUBLIC | Modifier.STATIC | Modifier.FINAL);
        }
        due.is("fields that are not private", open, 10);
    }

    private static List<Class<?>> allClasses() {
        List<Class<?>> all = new ArrayList<>(List.of(KittenStairs.class));
        all.addAll(Arrays.asList(KittenStairs.class.getDeclaredClasses()));
        return all;
    }

    private static void classesInside() {
        due.holds("some twelve classes", allClasses().size() <= 12);
        for (Class<?> type : allClasses()) {
            int own = 0;
            for (Field field : type.getDeclaredFields()) {
                boolean isStatic = Modifier.isStatic(field.getModifiers());
                due.holds("static fields are final: " + field, !isStatic || Modifier.isFinal(field.getModifiers()));
                if (!isStatic) own++;
            }
            due.holds("some twenty fields: " + type, own <= 20);
            List<Executable> calls = new ArrayList<>(Arrays.asList(type.getDeclaredMethods()));
            calls.addAll(Arrays.asList(type.getDeclaredConstructors()));
            for (Executable call : calls) due.holds("seven parameters: " + call, call.getParameterCount() <= 7);
            if (type == KittenStairs.class) continue;
            due.holds("static: " + type, Modifier.isStatic(type.getModifiers()));
            due.holds("neither public nor protected: " + type, (type.getModifiers() & (Modifier.PUBLIC | Modifier.PROTECTED)) == 0);
            due.holds("no class within one inside: " + type, type.getDeclaredClasses().length == 0);
        }
    }

    private static void text() throws IOException {
        String source = Files.readString(SOURCE, StandardCharsets.US_ASCII);
        String code = source.replaceAll("(?s)/\\*.*?\\*/", " ").replaceAll("//[^\\n]*", " ").replaceAll("'.'", "' '");
        String banned = "\\b(throw|throws|try|catch|finally|synchronized|assert|import|package|var|Object|equals|hashCode|toString)\\b"
            + "|->|::|@|\"|\\bstatic\\s*\\{|\\w+Exact\\b|\\b(double|float)\\b";
        Matcher found = Pattern.compile(banned).matcher(code);
        while (found.find()) due.holds("the code does without " + found.group(), false);
        // What is made: the fields' own rows and parts, and the states, each of them once.
        Matcher made = Pattern.compile("\\n *(.*)\\bnew\\b").matcher(code);
        while (made.find()) {
            String ahead = made.group(1);
            due.holds("made by a field or once: " + ahead + "new", ahead.contains("final ") || ahead.equals("room = "));
        }
        Set<String> library = new TreeSet<>();
        Matcher used = Pattern.compile("\\b[A-Z][a-z]\\w*\\.\\w+").matcher(code);
        while (used.find()) library.add(used.group());
        due.holds("of the library it uses " + library,
            Set.of("Math.abs", "Math.max", "Math.min", "System.arraycopy").containsAll(library));
    }
}
