import java.lang.reflect.InvocationTargetException;
import java.lang.reflect.Method;
import java.lang.reflect.Modifier;
import java.util.HashMap;
import java.util.Map;
import java.util.regex.Matcher;
import java.util.regex.Pattern;

/**
 * Calls that are written down, with the answers that are due: {@code log(6, 0, 0) = BAD; log(6, 0, 1) = 112}, several
 * to a line; behind # stands why. {@code tape "k012 "} feeds the bytes of a text, and answers as the last feed.
 */
final class Script {
    private static final int MOST_CALLS = 512;
    private static final Pattern ASKED = Pattern.compile("\\s*((\\w+)\\(([^)]*)\\)|tape \"([^\"]*)\")\\s*(?:=\\s*(-?\\w+))?\\s*(?:;|$)");
    private static final Map<String, Long> NAMES = new HashMap<>();
    private static final Map<String, Method> CALLS = new HashMap<>();

    static {
        NAMES.put("NONE", -1L);
        NAMES.put("BAD", -2L);
        NAMES.put("STATE", -3L);
        NAMES.put("FULL", -4L);
        NAMES.put("NO", -4611686018427387904L);
        NAMES.put("MIN", (long) Integer.MIN_VALUE);
        NAMES.put("MAX", (long) Integer.MAX_VALUE);
        for (Method m : LogSawyer.class.getDeclaredMethods()) {
            if (Modifier.isPublic(m.getModifiers())) {
                CALLS.put(m.getName(), m);
            }
        }
    }

    private final Due d;
    private final LogSawyer x = new LogSawyer();
    private int calls = 0;

    Script(Due d) {
        this.d = d;
    }

    /** Each text on a new object, for one sentence of the document. */
    static void sentence(Due d, String words, String... texts) {
        d.part(words);
        for (String text : texts) {
            new Script(d).run(text);
        }
    }

    Script run(String text) {
        for (String line : text.split("\n")) {
            String bare = line.replaceAll("#.*", "");
            Matcher m = ASKED.matcher(bare);
            int at = 0;
            while (at < bare.length() && m.find() && m.start() == at) {
                long got = m.group(2) == null ? tape(m.group(4)) : ask(m.group(2), m.group(3));
                if (m.group(5) != null) {
                    d.due(m.group(1) + " (call " + calls + ")", got, number(m.group(5)));
                }
                at = m.end();
            }
            if (!bare.substring(Math.min(at, bare.length())).isBlank()) {
                d.fail("can't be read: " + line);
            }
        }
        return this;
    }

    /** One call by its text, without an answer that is due. */
    long ask(String call) {
        Matcher m = ASKED.matcher(call);
        if (!m.matches()) {
            d.fail("can't be read: " + call);
            return 0;
        }
        return m.group(2) == null ? tape(m.group(4)) : ask(m.group(2), m.group(3));
    }

    void due(String call, long want) {
        d.due(call + " (call " + (calls + 1) + ")", ask(call), want);
    }

    private long tape(String text) {
        String bytes = text.replace("\\n", "\n");
        long got = 0;
        for (int i = 0; i < bytes.length(); i += 5) {
            int n = Math.min(5, bytes.length() - i);
            StringBuilder arguments = new StringBuilder().append(n);
            for (int k = 0; k < 5; k++) {
                arguments.append(", ").append(k < n ? (int) bytes.charAt(i + k) : 0);
            }
            got = ask("feed", arguments.toString());
        }
        return got;
    }

    private long ask(String name, String arguments) {
        Method method = CALLS.get(name);
        if (method == null) {
            d.fail("no such call: " + name);
            return 0;
        }
        calls++;
        if (calls > MOST_CALLS) {
            d.fail("more calls than an object serves for");
        }
        String[] words = arguments.isBlank() ? new String[0] : arguments.split(",");
        Object[] values = new Object[words.length];
        for (int i = 0; i < words.length; i++) {
            long v = number(words[i].trim());
            if (method.getParameterTypes()[i] == long.class) {
                values[i] = v;
            } else {
                values[i] = Math.toIntExact(v);
            }
        }
        try {
            return ((Number) method.invoke(x, values)).longValue();
        } catch (InvocationTargetException e) {
            d.fail(name + "(" + arguments + ") threw " + e.getCause());
            return 0;
        } catch (IllegalAccessException e) {
            throw new IllegalStateException(e);
        }
    }

    private static long number(String word) {
        Long named = NAMES.get(word);
        return named != null ? named : Long.parseLong(word);
    }
}
