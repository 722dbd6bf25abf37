import java.lang.reflect.Method;
import java.lang.reflect.Modifier;
import java.nio.file.Files;
import java.nio.file.Path;
import java.util.List;
import java.util.regex.Matcher;
import java.util.regex.Pattern;
import java.util.stream.Collectors;
import java.util.stream.Stream;

/** README.md's program prints what README.md says, and README.md names each call and each test. */
public final class ReadmeTest {
    public static void main(String[] args) throws Exception {
        String page = Files.readString(Path.of("README.md"));
        Matcher program = Pattern.compile("```java\n(.*?)```", Pattern.DOTALL).matcher(page);
        Check.due("there is a program", true, program::find);
        Check.due("what the program prints", said(program.group(1)), () -> printed(program.group(1)));
        for (Method method : LawnGardeners.class.getDeclaredMethods()) {
            if (Modifier.isPublic(method.getModifiers())) {
                isNamed(page, method.getName());
            }
        }
        for (String test : tests()) {
            isNamed(page, test);
        }
        Check.end();
    }

    private static void isNamed(String page, String name) {
        Check.due("the page names " + name, true, () -> page.contains("`" + name + "`"));
    }

    /** What stands behind "//" in each line that prints one. */
    private static List<String> said(String program) {
        return program.lines().filter(line -> line.contains("println")).map(line -> line.replaceAll(".*// ", ""))
            .collect(Collectors.toList());
    }

    private static List<String> printed(String program) throws Exception {
        Path out = Files.createTempDirectory("readme");
        Path source = Files.writeString(out.resolve("Mine.java"), program);
        String classes = System.getProperty("java.class.path");
        output("javac", "-cp", classes, "-d", out.toString(), source.toString());
        List<String> lines = output("java", "-cp", out + ":" + classes, "Mine");
        Files.deleteIfExists(out.resolve("Mine.class"));
        Files.delete(source);
        Files.delete(out);
        return lines;
    }

    private static List<String> output(String... command) throws Exception {
        Process process = new ProcessBuilder(command).redirectError(ProcessBuilder.Redirect.INHERIT).start();
        String text = new String(process.getInputStream().readAllBytes());
        Check.due("exit code of " + command[0], 0, process::waitFor);
        return text.lines().collect(Collectors.toList());
    }

    private static List<String> tests() throws Exception {
        try (Stream<Path> files = Files.list(Path.of("src/test/java"))) {
            return files.map(file -> file.getFileName().toString()).filter(name -> name.endsWith("Test.java"))
                .map(name -> name.replace(".java", "")).sorted().collect(Collectors.toList());
        }
    }
}
