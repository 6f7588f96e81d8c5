import java.io.IOException;
import java.nio.file.Files;
import java.nio.file.Path;
import java.util.regex.Matcher;
import java.util.regex.Pattern;

/** What can be seen by the text alone of the rules in LANGUAGE.md. */
public final class LanguageTest {
    private static final String[] NEVER = {"throw", "throws", "try", "catch", "finally", "synchronized", "assert", "yield", "import static",
        "package", "public static void", "protected", "native", "volatile", "transient", "instanceof final", "equals", "hashCode",
        "toString", "Exact", "Math.random", "System.out", "System.currentTimeMillis", "System.nanoTime", "Thread", "Object", "Class",
        "var", "->", "::", "@", "Float", "Double", "float", "double"};

    public static void main(String[] args) throws IOException {
        Due d = new Due();
        d.part("language");
        String text = Files.readString(Path.of("src/main/java/LogSawyer.java"));
        String code = text.replaceAll("(?s)/\\*.*?\\*/", "").replaceAll("//[^\n]*", "");
        for (String word : NEVER) {
            boolean letters = Character.isLetter(word.charAt(0));
            Pattern p = Pattern.compile(letters ? "\\b" + Pattern.quote(word) + "\\b" : Pattern.quote(word));
            if (p.matcher(code).find()) {
                d.fail("the code says " + word);
            }
        }
        d.due("bytes above 126", text.chars().filter(c -> c > 126 || c < 32 && c != '\n').count(), 0);
        Matcher imports = Pattern.compile("(?m)^import (.*);$").matcher(code);
        while (imports.find()) {
            d.due("import " + imports.group(1), imports.group(1).equals("java.util.Arrays") ? 1 : 0, 1);
        }
        int classes = 0;
        Matcher m = Pattern.compile("\\bclass\\b").matcher(code);
        while (m.find()) {
            classes++;
        }
        d.due("twelve classes at most", Math.max(12, classes), 12);
        methods(d, code);
        d.end("LanguageTest");
    }

    /** Lines of each method, and its parameters. */
    private static void methods(Due d, String code) {
        String[] lines = code.split("\n");
        int seen = 0;
        for (int i = 0; i < lines.length; i++) {
            Matcher head = Pattern.compile("^( {4}| {8})(?! |return|if|for|while|switch|else|new)[\\w<>\\[\\] ]*\\((.*)\\) \\{$").matcher(lines[i]);
            if (!head.matches()) {
                continue;
            }
            seen++;
            int end = i;
            while (!lines[end].equals(head.group(1) + "}")) {
                end++;
            }
            if (end - i + 1 > 60) {
                d.fail("a long method: " + lines[i].trim());
            }
            if (head.group(2).split(",").length > 7) {
                d.fail("many parameters: " + lines[i].trim());
            }
        }
        d.due("methods were looked at", seen > 100 ? 1 : 0, 1);
    }
}
