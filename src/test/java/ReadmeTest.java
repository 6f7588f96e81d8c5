import java.io.IOException;
import java.lang.reflect.Method;
import java.lang.reflect.Modifier;
import java.nio.file.Files;
import java.nio.file.Path;
import java.util.Set;
import java.util.TreeSet;
import java.util.regex.Matcher;
import java.util.regex.Pattern;

/** The calls that README.md shows answer what stands behind them; all calls are shown, all tests are told. */
public final class ReadmeTest {
    private static final Pattern CALL = Pattern.compile("x\\.(\\w+)\\((.*)\\);\\s*// (-?\\w+): \\S.*");

    public static void main(String[] args) throws IOException {
        Due d = new Due();
        d.part("README");
        String text = Files.readString(Path.of("README.md"));
        Script s = new Script(d);
        Set<String> unseen = publicCalls();
        for (String line : text.split("\n")) {
            if (!line.startsWith("x.")) {
                continue;
            }
            Matcher m = CALL.matcher(line);
            if (!m.matches()) {
                d.fail("can't be read: " + line);
                continue;
            }
            s.run(m.group(1) + "(" + numbers(m.group(2)) + ") = " + m.group(3));
            unseen.remove(m.group(1));
        }
        d.due("calls that are not shown: " + unseen, unseen.size(), 0);
        try (var files = Files.list(Path.of("src/test/java"))) {
            for (Path file : files.toList()) {
                String name = file.getFileName().toString().replace(".java", "");
                if (name.endsWith("Test") && !text.contains("`" + name + "`")) {
                    d.fail(name + " is not told");
                }
            }
        }
        d.end("ReadmeTest");
    }

    private static Set<String> publicCalls() {
        Set<String> names = new TreeSet<>();
        for (Method m : LogSawyer.class.getDeclaredMethods()) {
            if (Modifier.isPublic(m.getModifiers())) {
                names.add(m.getName());
            }
        }
        return names;
    }

    /** Letters by their numbers, names without their class. */
    private static String numbers(String arguments) {
        String bare = arguments.replace("LogSawyer.", "").replace("'\\n'", "10");
        Matcher m = Pattern.compile("'(.)'").matcher(bare);
        return m.replaceAll(r -> Integer.toString(r.group(1).charAt(0)));
    }
}
