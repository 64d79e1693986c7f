import java.io.ByteArrayOutputStream;
import java.io.IOException;
import java.io.PrintStream;
import java.nio.file.Files;
import java.nio.file.Path;
import java.util.regex.Matcher;
import java.util.regex.Pattern;
import javax.tools.JavaCompiler;
import javax.tools.ToolProvider;

/** Each program of README.md is compiled and run, and prints the text that stands behind it. */
public final class ReadmeTest {
    private static final Pattern PROGRAM =
        Pattern.compile("```java\n(.*?)```\n\nprints\n\n```text\n(.*?)```", Pattern.DOTALL);
    private static final Pattern CLASS = Pattern.compile("public final class (\\w+)");
    private static final Check check = new Check();

    public static void main(String[] args) throws IOException, ReflectiveOperationException {
        String page = Files.readString(Path.of("README.md"));
        Matcher found = PROGRAM.matcher(page);
        int programs = 0;
        while (found.find()) {
            programs++;
            check.same("program " + programs, found.group(2), printedBy(found.group(1)));
        }
        check.same("programs in README.md", String.valueOf(page.split("```java").length - 1), programs + "");
        check.same("whether there are any", "true", String.valueOf(programs > 0));
        check.end();
    }

    /** The program's class is put beside those of the test, so that it finds LineKeeper there. */
    private static String printedBy(String program) throws IOException, ReflectiveOperationException {
        Matcher named = CLASS.matcher(program);
        if (!named.find()) {
            return "no public final class";
        }
        Path classes = Path.of(System.getProperty("java.class.path"));
        Path source = classes.resolve(named.group(1) + ".java");
        Files.writeString(source, program);
        JavaCompiler compiler = ToolProvider.getSystemJavaCompiler();
        String out = classes.toString();
        int failed = compiler.run(null, null, null, "-cp", out, "-d", out, source.toString());
        return failed == 0 ? printedBy(Class.forName(named.group(1))) : "not compiled";
    }

    private static String printedBy(Class<?> program) throws ReflectiveOperationException {
        PrintStream before = System.out;
        ByteArrayOutputStream printed = new ByteArrayOutputStream();
        System.setOut(new PrintStream(printed));
        try {
            program.getMethod("main", String[].class).invoke(null, (Object) new String[0]);
        } finally {
            System.setOut(before);
        }
        return printed.toString().replace(System.lineSeparator(), "\n");
    }
}
