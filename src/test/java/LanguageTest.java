import java.io.IOException;
import java.lang.reflect.Constructor;
import java.lang.reflect.Field;
import java.lang.reflect.Method;
import java.lang.reflect.Modifier;
import java.nio.file.Files;
import java.nio.file.Path;
import java.util.Arrays;
import java.util.List;
import java.util.TreeSet;
import java.util.regex.Matcher;
import java.util.regex.Pattern;

/** The face of the document, and those rules of LANGUAGE.md that a program can look at. */
public final class LanguageTest {
    private static final Check check = new Check();
    private static final String[] FACE = {
        "defineInfix(int,int)", "definePrefix(int,int)", "definePostfix(int,int)", "operatorCount()", "symbol(int)", "kind(int)",
        "setLevel(int,int)", "setAssociativity(int,int)", "setForbidden(int,int,boolean)", "leaf(int)", "unary(int,int)",
        "binary(int,int,int)", "nodeCount()", "operatorOf(int)", "letterOf(int)", "operand(int,int)", "size(int)",
        "areEqual(int,int)", "print(int)", "printFull(int)", "outputAt(int)", "bracketPairs()", "readWithout(int)", "append(int)",
        "copyOutput()", "clearInput()", "parse()", "errorKind()", "errorPosition()",
    };
    private static final String[] CONSTANTS = {
        "NO_SUCH_NODE=-1", "NO_SUCH_OPERATOR=-2", "BAD_SYMBOL=-3", "BAD_VALUE=-4", "ALREADY_DEFINED=-5", "TOO_MANY=-6",
        "TOO_LARGE=-7", "WRONG_KIND=-8", "NO_SUCH_INDEX=-9", "NONE=-10", "NO_TEXT=-11", "PARSE_ERROR=-12", "INFIX=0", "PREFIX=1",
        "POSTFIX=2", "LEFT=0", "RIGHT=1", "NO_ASSOCIATIVITY=2", "EXPECTED_OPERAND=1", "EXPECTED_OPERATOR=2", "EXPECTED_CLOSE=3",
        "UNEXPECTED_CLOSE=4", "NOT_ASSOCIATIVE=5", "FORBIDDEN_PAIR=6", "SAME_TREE=0", "OTHER_TREE=1", "UNREADABLE=2",
    };

    public static void main(String[] args) throws IOException, IllegalAccessException {
        face();
        constants();
        insides();
        words();
        check.end("LanguageTest");
    }

    private static String parameters(Class<?>[] types) {
        return "(" + String.join(",", Arrays.stream(types).map(Class::getName).toList()) + ")";
    }

    private static void face() {
        TreeSet<String> found = new TreeSet<>();
        for (Method method : ExpressionPrinter.class.getDeclaredMethods()) {
            if (!Modifier.isPrivate(method.getModifiers())) {
                found.add(method.getName() + parameters(method.getParameterTypes()));
                check.due("answers an int: " + method, method.getReturnType().getName(), "int");
                check.due("public, not static: " + method, method.getModifiers(), Modifier.PUBLIC);
            }
        }
        check.due("rule 1: methods", found.toString(), new TreeSet<>(List.of(FACE)).toString());
        Constructor<?>[] constructors = ExpressionPrinter.class.getDeclaredConstructors();
        check.due("rule 1: constructors", constructors.length, 1);
        check.due("rule 1: constructor", parameters(constructors[0].getParameterTypes()), "()");
        check.due("rule 1: class", ExpressionPrinter.class.getModifiers(), Modifier.PUBLIC | Modifier.FINAL);
    }

    private static void constants() throws IllegalAccessException {
        TreeSet<String> found = new TreeSet<>();
        for (Field field : ExpressionPrinter.class.getDeclaredFields()) {
            if (!Modifier.isPrivate(field.getModifiers())) {
                found.add(field.getName() + "=" + field.getInt(null));
            }
        }
        check.due("rule 1: constants", found.toString(), new TreeSet<>(List.of(CONSTANTS)).toString());
    }

    private static void insides() {
        TreeSet<String> faceNames = new TreeSet<>();
        for (String method : FACE) {
            faceNames.add(method.substring(0, method.indexOf('(')));
        }
        Class<?>[] classes = ExpressionPrinter.class.getDeclaredClasses();
        check.due("rule 11: classes", classes.length <= 11 ? 1 : 0, 1);
        for (Class<?> inside : classes) {
            check.due("rule 2: static " + inside, Modifier.isStatic(inside.getModifiers()) ? 1 : 0, 1);
            for (Method method : inside.getDeclaredMethods()) {
                check.due("rule 1: name of " + method, faceNames.contains(method.getName()) ? 1 : 0, 0);
                check.due("rule 11: parameters of " + method, method.getParameterCount() <= 7 ? 1 : 0, 1);
            }
            int fields = 0;
            for (Field field : inside.getDeclaredFields()) {
                boolean isStatic = Modifier.isStatic(field.getModifiers());
                fields += isStatic ? 0 : 1;
                check.due("rule 5: " + field, !isStatic || Modifier.isFinal(field.getModifiers()) ? 1 : 0, 1);
            }
            check.due("rule 11: fields of " + inside, fields <= 20 ? 1 : 0, 1);
        }
    }

    private static void words() throws IOException {
        String source = Files.readString(Path.of("src/main/java/ExpressionPrinter.java"))
                .replaceAll("(?s)/\\*.*?\\*/", " ").replaceAll("//[^\n]*", " ");
        Matcher matcher = Pattern.compile("\\b(throw|throws|try|catch|synchronized|assert|package|Exact|System|Random|Thread)\\b|->|::").matcher(source);
        check.due("rules 2, 6 and 13: words", matcher.find() ? matcher.group() : "none", "none");
        Matcher imports = Pattern.compile("import ([^;]*);").matcher(source);
        while (imports.find()) {
            check.due("rule 4: import", imports.group(1), "none");
        }
    }
}
