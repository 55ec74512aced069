import java.io.IOException;
import java.lang.reflect.Method;
import java.lang.reflect.Modifier;
import java.nio.file.DirectoryStream;
import java.nio.file.Files;
import java.nio.file.Path;
import java.util.ArrayList;
import java.util.List;
import java.util.regex.Matcher;
import java.util.regex.Pattern;

/** README.md, run from the project's directory: its lines answer as it says, and it leaves none out. */
public final class ReadmeTest {
    private static final Pattern LINE = Pattern.compile("x\\.(.+?); +// -> (\\S.*?)(?: {4}.*)?");
    private static int wrong = 0;

    private ReadmeTest() {
    }

    public static void main(String[] args) throws IOException {
        String text = Files.readString(Path.of("README.md"));
        lines(text);
        calls(text);
        tests(text);
        check(text.contains("\n.ci/run\n"), "README.md tells how to run the tests");
        if (wrong != 0) {
            System.exit(1);
        }
        Script.end();
    }

    private static void lines(String text) {
        List<String> lines = new ArrayList<>();
        for (String line : text.split("\n")) {
            Matcher matcher = LINE.matcher(line);
            boolean isCall = line.startsWith("x.");
            check(!isCall || matcher.matches(), line + ": has no answer");
            if (isCall && matcher.matches()) {
                lines.add(matcher.group(1) + " -> " + matcher.group(2));
            }
        }
        check(!lines.isEmpty(), "README.md has lines of calls");
        Script.run("README.md", lines.toArray(new String[0]));
    }

    private static void calls(String text) {
        for (Method method : Earlyends.class.getDeclaredMethods()) {
            int count = method.getParameterCount();
            String words = count == 0 ? "" : "\\w+" + ", \\w+".repeat(count - 1);
            Pattern call = Pattern.compile("`" + method.getName() + "\\(" + words + "\\)`");
            boolean isPublic = Modifier.isPublic(method.getModifiers());
            check(!isPublic || call.matcher(text).find(), "README.md names " + method.getName());
        }
    }

    private static void tests(String text) throws IOException {
        try (DirectoryStream<Path> files = Files.newDirectoryStream(Path.of("src/test/java"), "*Test.java")) {
            for (Path file : files) {
                String name = file.getFileName().toString().replace(".java", "");
                check(text.contains("`" + name + "`"), "README.md names " + name);
            }
        }
    }

    private static void check(boolean isSo, String what) {
        if (!isSo) {
            wrong++;
            System.out.println("not so: " + what);
        }
    }
}
