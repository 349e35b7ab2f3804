import java.io.ByteArrayOutputStream;
import java.io.File;
import java.io.IOException;
import java.io.PrintStream;
import java.lang.reflect.Field;
import java.lang.reflect.Method;
import java.lang.reflect.Modifier;
import java.net.URL;
import java.net.URLClassLoader;
import java.nio.file.Files;
import java.nio.file.Path;
import java.util.regex.Matcher;
import java.util.regex.Pattern;
import javax.tools.ToolProvider;

/** README.md: its example prints what it says, and it names each call and constant as the document does. */
public final class ReadmeTest {
    private static final Check check = new Check();

    public static void main(String[] args) throws Exception {
        String readme = Files.readString(Path.of("README.md"));
        String document = Files.readString(Path.of("../shared/DOC.md"));
        check.due("the example", answersOf(block(readme, "java")), block(readme, "text"));
        for (Method method : ExpressionPrinter.class.getDeclaredMethods()) {
            if (Modifier.isPublic(method.getModifiers())) {
                String name = method.getName();
                check.due("errors of " + name, errorsInRow(readme, name, method.getParameterCount()), errorsInPromise(document, name));
            }
        }
        for (Field field : ExpressionPrinter.class.getDeclaredFields()) {
            if (Modifier.isPublic(field.getModifiers())) {
                String pattern = "`" + field.getName() + "` (\\| |\\()" + field.getInt(null) + "\\b";
                check.due("value of " + field.getName(), Pattern.compile(pattern).matcher(readme).find() ? 1 : 0, 1);
            }
        }
        check.end("ReadmeTest");
    }

    private static String block(String readme, String language) {
        Matcher matcher = Pattern.compile("(?s)```" + language + "\n(.*?)```").matcher(readme);
        return matcher.find() ? matcher.group(1) : "no block of " + language;
    }

    /** What the program prints. */
    private static String answersOf(String program) throws Exception {
        Path directory = Files.createTempDirectory("readme");
        Path source = Files.writeString(directory.resolve("Example.java"), program);
        try {
            int failed = ToolProvider.getSystemJavaCompiler().run(null, System.out, System.out,
                    "-cp", System.getProperty("java.class.path"), "-d", directory.toString(), source.toString());
            return failed != 0 ? "does not compile" : printedBy(directory);
        } finally {
            remove(directory);
        }
    }

    private static String printedBy(Path directory) throws Exception {
        ByteArrayOutputStream printed = new ByteArrayOutputStream();
        PrintStream before = System.out;
        try (URLClassLoader loader = new URLClassLoader(new URL[] {directory.toUri().toURL()})) {
            System.setOut(new PrintStream(printed, true));
            loader.loadClass("Example").getMethod("main", String[].class).invoke(null, (Object) new String[0]);
        } finally {
            System.setOut(before);
        }
        return printed.toString().replace(System.lineSeparator(), "\n");
    }

    private static void remove(Path directory) throws IOException {
        for (File file : directory.toFile().listFiles()) {
            Files.delete(file.toPath());
        }
        Files.delete(directory);
    }

    /** The last column of the row of a call. */
    private static String errorsInRow(String readme, String name, int parameters) {
        Matcher row = Pattern.compile("(?m)^\\| `" + name + "\\(([^)]*)\\)` \\|[^|]*\\|[^|]*\\|([^|]*)\\|$").matcher(readme);
        if (!row.find()) {
            return "no row";
        }
        int named = row.group(1).isEmpty() ? 0 : row.group(1).split(", ").length;
        return named != parameters ? named + " parameters" : row.group(2).replace("`", "").trim();
    }

    private static String errorsInPromise(String document, String name) {
        Matcher promise = Pattern.compile("(?s)\n## Promise \\d+: " + name + "\n(.*?)\n## ").matcher(document);
        if (!promise.find()) {
            return "no promise";
        }
        if (promise.group(1).contains("the errors are those of defineInfix")) {
            return errorsInPromise(document, "defineInfix");
        }
        StringBuilder errors = new StringBuilder();
        Matcher error = Pattern.compile("; ([A-Z_]+) if").matcher(promise.group(1));
        while (error.find()) {
            if (!error.group(1).equals("NONE")) {
                errors.append(errors.length() == 0 ? "" : ", ").append(error.group(1));
            }
        }
        return errors.toString();
    }
}
