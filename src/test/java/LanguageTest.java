import java.io.IOException;
import java.lang.reflect.Field;
import java.lang.reflect.Method;
import java.lang.reflect.Modifier;
import java.nio.file.Files;
import java.nio.file.Path;
import java.util.ArrayList;
import java.util.List;
import java.util.Set;
import java.util.TreeSet;
import java.util.regex.Matcher;
import java.util.regex.Pattern;

/** The rules of LANGUAGE.md that can be seen in the text of the program, or in its compiled classes. */
public final class LanguageTest {
    private static final Path SOURCE = Path.of("src/main/java/MappedProcessor.java");

    private final Check check = new Check();
    private final String code;
    private final List<Class<?>> classes = new ArrayList<>();

    private LanguageTest() throws IOException {
        code = Files.readString(SOURCE).replaceAll("(?s)/\\*.*?\\*/|//[^\n]*", "");
        classes.add(MappedProcessor.class);
        classes.addAll(List.of(MappedProcessor.class.getDeclaredClasses()));
    }

    public static void main(String[] args) throws IOException {
        LanguageTest test = new LanguageTest();
        test.forbiddenWords();
        test.libraryNames();
        test.libraryFunctions();
        test.nestedClasses();
        test.staticFields();
        test.sizes();
        test.shortMethods();
        test.objectsAreMadeByConstructors();
        test.check.end();
    }

    /** The document asks for no exception, so of rule 6 nothing is needed at all. */
    private void forbiddenWords() {
        String[] words = {
            "package", "import", "throw", "throws", "try", "catch", "finally", "synchronized", "assert", "native",
            "volatile", "var", "yield"
        };
        for (String word : words) {
            check.due("word " + word, Pattern.compile("\\b" + word + "\\b").matcher(code).find(), false);
        }
        check.due("lambda", code.contains("->"), false);
        check.due("method reference", code.contains("::"), false);
        check.due("static block", Pattern.compile("\\bstatic\\s*\\{").matcher(code).find(), false);
        check.due("double or float", Pattern.compile("\\b(double|float|Double|Float)\\b").matcher(code).find(), false);
    }

    /** Rule 4: of the library the program needs Integer alone. */
    private void libraryNames() {
        Set<String> own = new TreeSet<>();
        for (Class<?> c : classes) {
            own.add(c.getSimpleName());
        }
        Matcher names = Pattern.compile("\\b[A-Z][A-Za-z0-9]*[a-z][A-Za-z0-9]*\\b").matcher(code);
        while (names.find()) {
            String name = names.group();
            check.due("library name " + name, own.contains(name) || name.equals("Integer"), true);
        }
    }

    /** Rule 4: "the static functions of Integer", so neither its constants nor what ends in Exact. */
    private void libraryFunctions() {
        Matcher uses = Pattern.compile("\\bInteger\\s*(\\.\\s*\\w+)?\\s*(.)").matcher(code);
        while (uses.find()) {
            boolean isFunction = uses.group(1) != null && uses.group(2).equals("(");
            check.due("function " + uses.group(), isFunction && !uses.group(1).endsWith("Exact"), true);
        }
    }

    /** Rules 1 and 2. */
    private void nestedClasses() {
        for (Class<?> c : classes.subList(1, classes.size())) {
            int kind = c.getModifiers();
            check.due("static class " + c.getSimpleName(), Modifier.isStatic(kind), true);
            check.due("seen class " + c.getSimpleName(), Modifier.isPublic(kind) || Modifier.isProtected(kind), false);
        }
    }

    /** Rule 5, of which the program needs int and long. */
    private void staticFields() {
        for (Class<?> c : classes) {
            for (Field f : c.getDeclaredFields()) {
                if (Modifier.isStatic(f.getModifiers())) {
                    boolean isConstant = f.getType() == int.class || f.getType() == long.class;
                    check.due("static " + f.getName(), isConstant && Modifier.isFinal(f.getModifiers()), true);
                }
            }
        }
    }

    /** Rule 11. */
    private void sizes() {
        check.due("classes " + classes.size(), classes.size() <= 12, true);
        for (Class<?> c : classes) {
            int fields = 0;
            for (Field f : c.getDeclaredFields()) {
                fields += Modifier.isStatic(f.getModifiers()) ? 0 : 1;
            }
            check.due("fields of " + c.getSimpleName(), fields <= 20, true);
            for (Method m : c.getDeclaredMethods()) {
                check.due("parameters of " + m.getName(), m.getParameterCount() <= 7, true);
            }
        }
    }

    /** Rule 11, "some sixty lines": a method begins and ends at the same indent. */
    private void shortMethods() {
        Matcher methods = Pattern.compile("(?m)^( {4}| {8})(?! )[^\n]*\\) \\{\n(?s:(.*?))^\\1\\}$").matcher(code);
        int found = 0;
        while (methods.find()) {
            found++;
            String head = methods.group().substring(0, methods.group().indexOf('\n')).trim();
            check.due("lines of " + head, methods.group().split("\n").length <= 60, true);
        }
        check.due("methods found " + found, found > 50, true);
    }

    /** All calls of a run share one room, so the calls themselves make nothing. */
    private void objectsAreMadeByConstructors() {
        Matcher makings = Pattern.compile("(?m)^ *(\\w+) = new .*$|\\bnew\\b").matcher(code);
        while (makings.find()) {
            String field = makings.group(1);
            check.due("made: " + makings.group().trim(), field != null && isFinalField(field), true);
        }
    }

    /** The compiler lets a final field be set in a constructor alone. */
    private boolean isFinalField(String name) {
        for (Class<?> c : classes) {
            for (Field f : c.getDeclaredFields()) {
                if (f.getName().equals(name) && Modifier.isFinal(f.getModifiers())) {
                    return true;
                }
            }
        }
        return false;
    }
}
