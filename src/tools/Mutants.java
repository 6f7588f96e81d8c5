import com.sun.source.tree.BinaryTree;
import com.sun.source.tree.CompilationUnitTree;
import com.sun.source.tree.ConditionalExpressionTree;
import com.sun.source.tree.ExpressionTree;
import com.sun.source.tree.IdentifierTree;
import com.sun.source.tree.IfTree;
import com.sun.source.tree.MethodInvocationTree;
import com.sun.source.tree.MethodTree;
import com.sun.source.tree.ReturnTree;
import com.sun.source.tree.Tree;
import com.sun.source.tree.VariableTree;
import com.sun.source.util.JavacTask;
import com.sun.source.util.SourcePositions;
import com.sun.source.util.TreeScanner;
import com.sun.source.util.Trees;
import java.io.IOException;
import java.io.StringWriter;
import java.net.URI;
import java.nio.file.Files;
import java.nio.file.Path;
import java.util.ArrayList;
import java.util.List;
import java.util.concurrent.ExecutorService;
import java.util.concurrent.Executors;
import java.util.concurrent.Future;
import java.util.concurrent.TimeUnit;
import java.util.function.Function;
import java.util.regex.Matcher;
import java.util.regex.Pattern;
import java.util.stream.Collectors;
import java.util.stream.Stream;
import javax.tools.JavaCompiler;
import javax.tools.SimpleJavaFileObject;
import javax.tools.StandardJavaFileManager;
import javax.tools.StandardLocation;
import javax.tools.ToolProvider;

/**
 * Breaks LogSawyer in one place at a time, runs tests, and tells which breaks no test has seen: edges off by one,
 * refusals in another order, refused calls that change something. It is no test: it takes minutes, and some of what it
 * tells makes no difference to any call. {@code java src/tools/Mutants.java edges PromisesTest LogEdgesTest ..}, or of
 * some lines of the program alone: {@code edges@149,158}.
 */
public final class Mutants {
    private static final Path PROGRAM = Path.of("src/main/java/LogSawyer.java"), READINGS = Path.of("src/tools/readings.txt"), TESTS = Path.of("src/test/java");

    // What a refused call might do by mistake.
    private static final String[] CHANGES = {"tapeSize = 0;", "if (tapeSize < 40) tapeSize++;", "tape[0] = 'o';",
        "yard.turn = (yard.turn + 1) % 4; lies.laid = false;", "yard.length = Math.max(0, yard.length - 1); lies.laid = false;",
        "yard.radius = 4; lies.laid = false;", "yard.taper = (yard.taper + 1) % 5; lies.laid = false;",
        "yard.dropFault(yard.faultCount - 1); lies.laid = false;", "yard.addFault(newFault(5, 0, 7, 1)); lies.laid = false;",
        "yard.boardCount = Math.max(0, yard.boardCount - 1);", "yard.addBoard(2, 4, 4, 0);", "yard.boards[1] = 1;",
        "yard.orderCount = Math.max(0, yard.orderCount - 1);", "yard.addOrder(1, 1, 1, 3);", "yard.orders[1] = 12;",
        "yard.rules[0] = (yard.rules[0] + 1) % 3; lies.laid = false;", "yard.rules[1] = 1 - yard.rules[1]; lies.laid = false;",
        "yard.rules[2] = 98; lies.laid = false;", "yard.rules[5] = 2; lies.laid = false;", "yard.rules[6] ^= 2; lies.laid = false;",
        "hasImage = false;", "kept.becomeAs(yard);", "sheetSort[0] = NONE;", "sheetSort[1] = 1 - sheetSort[1];",
        "sheetSize[0] = Math.max(0, sheetSize[0] - 1);", "sheetItems[0] = 7;", "sheetItems[50] = 9;", "sheetItems[110] = 9;"};

    private record Mutant(int at, String what, String text) { }

    private final String source;
    private final List<Mutant> mutants = new ArrayList<>();

    private Mutants(String source) {
        this.source = source;
    }

    public static void main(String[] args) throws Exception {
        Mutants all = new Mutants(Files.readString(PROGRAM));
        String[] way = args.length < 2 ? new String[] {""} : args[0].split("@");
        switch (way[0]) {
            case "edges": all.edges(); break;
            case "orders": all.orders(); break;
            case "changes": all.changes(); break;
            case "readings": all.readings(); break;
            case "parts": all.parts(); break;
            default:
                System.out.println("edges, orders, changes, readings or parts, and the tests' names");
                System.exit(2);
        }
        if (way.length > 1) {
            List<String> lines = List.of(way[1].split(","));
            all.mutants.removeIf(m -> !lines.contains(Integer.toString(all.lineOf(m.at))));
        }
        all.runAll(List.of(args).subList(1, args.length), way[0].equals("readings"));
    }

    private void edges() {
        replace("(?<= )(<=|>=|<|>|==|!=)(?= )", m -> switch (m.group()) {
            case "<=" -> List.of("<");
            case ">=" -> List.of(">");
            case "<" -> List.of("<=");
            case ">" -> List.of(">=");
            case "==" -> List.of("!=");
            default -> List.of("==");
        });
        replace("(?<= )[+-](?= )", m -> List.of(m.group().equals("+") ? "-" : "+"));
        replace("(?<= )(&&|\\|\\|)(?= )", m -> List.of(m.group().equals("&&") ? "||" : "&&"));
        replace("(?<=[( ])!(?=[a-z])", m -> List.of(""));
        replace("(?<![\\w'.])\\d+(?![\\w'])", m -> List.of(m.group() + " + 1", m.group() + " - 1"));
        replace("'\\d'", m -> List.of(m.group() + " + 1", m.group() + " - 1"));
        replace("Math\\.(min|max)", m -> List.of(m.group().equals("Math.min") ? "Math.max" : "Math.min"));
        replace("return (BAD|STATE|FULL|NONE|NO|MISSING|OUTSIDE|UNLIKE|BELOW_ZERO);", m -> Stream.of("BAD", "STATE", "NONE")
            .filter(o -> !o.equals(m.group(1))).map(o -> "return " + o + ";").toList());
        replace("(?m)(?<=^ {8,24})[\\w.\\[\\]]+(\\+\\+|--|\\([^;\\n]*\\)| [|&+]?= [^;\\n]*);$", m -> List.of(";"));
    }

    /** Refusals that follow one another change places. */
    private void orders() {
        Matcher m = Pattern.compile("(?m)^( +)if \\([^{}]*\\) \\{\\n +return [^;]*;\\n\\1\\}\\n").matcher(source);
        List<int[]> ifs = new ArrayList<>();
        while (m.find()) {
            ifs.add(new int[] {m.start(), m.end()});
        }
        for (int i = 0; i < ifs.size(); i++) {
            for (int j = i + 1; j < ifs.size() && ifs.get(j)[0] == ifs.get(j - 1)[1]; j++) {
                int[] a = ifs.get(i), b = ifs.get(j);
                mutants.add(new Mutant(a[0], "changes places with line " + lineOf(b[0]), source.substring(0, a[0])
                    + source.substring(b[0], b[1]) + source.substring(a[1], b[0]) + source.substring(a[0], a[1]) + source.substring(b[1])));
            }
        }
    }

    private void changes() {
        replace("return (BAD|STATE|FULL|NO|MISSING|OUTSIDE|UNLIKE|BELOW_ZERO|ITEM_FAULT - wrong);",
            m -> Stream.of(CHANGES).map(change -> "{ " + change + " " + m.group() + " }").toList());
    }

    /** Other readings of the document's sentences, each a change of the program (readings.txt). */
    private void readings() throws IOException {
        for (String part : Files.readString(READINGS).split("(?m)^== ")) {
            if (part.isBlank()) {
                continue;
            }
            List<String> lines = part.lines().toList();
            Matcher m = Pattern.compile(Stream.of(side(lines, "-").trim().split("\\s+")).map(Pattern::quote).collect(Collectors.joining("\\s+"))).matcher(source);
            if (!m.find()) {
                System.out.println("not found: " + lines.get(0));
                continue;
            }
            mutants.add(new Mutant(m.start(), lines.get(0), source.substring(0, m.start()) + side(lines, "+") + source.substring(m.end())));
            if (m.find()) {
                System.out.println("found twice: " + lines.get(0));
            }
        }
    }

    /** A part of an expression is left out, or another value of the same method stands in its place. */
    private void parts() throws IOException {
        JavaCompiler compiler = ToolProvider.getSystemJavaCompiler();
        JavacTask task = (JavacTask) compiler.getTask(null, null, d -> { }, null, null, List.of(memory(source)));
        CompilationUnitTree unit = task.parse().iterator().next();
        SourcePositions places = Trees.instance(task).getSourcePositions();
        new TreeScanner<Void, List<String>>() {
            @Override
            public Void visitMethod(MethodTree method, List<String> outer) {
                List<String> names = new ArrayList<>();
                method.getParameters().stream().filter(p -> p.getType().toString().equals("int")).forEach(p -> names.add(p.getName().toString()));
                new TreeScanner<Void, Void>() {
                    @Override
                    public Void visitVariable(VariableTree v, Void none) {
                        if (v.getType() != null && v.getType().toString().equals("int") && !names.contains(v.getName().toString())) {
                            names.add(v.getName().toString());
                        }
                        return super.visitVariable(v, none);
                    }
                }.scan(method.getBody(), null);
                return scan(method.getBody(), names);
            }

            @Override
            public Void visitIdentifier(IdentifierTree id, List<String> names) {
                String name = id.getName().toString();
                if (names != null && names.contains(name)) {
                    names.stream().filter(other -> !other.equals(name)).forEach(other -> put(id, other));
                } else if (name.matches("[A-Z][A-Z_]+") && !name.startsWith("ANGLE_") && !name.equals("LETTERS") && !name.startsWith("RULE_")) {
                    put(id, "(" + name + " + 1)");
                    put(id, "(" + name + " - 1)");
                }
                return null;
            }

            @Override
            public Void visitBinary(BinaryTree b, List<String> names) {
                put(b, text(b.getLeftOperand()));
                put(b, text(b.getRightOperand()));
                return super.visitBinary(b, names);
            }

            @Override
            public Void visitConditionalExpression(ConditionalExpressionTree c, List<String> names) {
                put(c, text(c.getTrueExpression()));
                put(c, text(c.getFalseExpression()));
                return super.visitConditionalExpression(c, names);
            }

            @Override
            public Void visitIf(IfTree one, List<String> names) {
                put(one.getCondition(), "(1 == 1)");
                put(one.getCondition(), "(1 == 0)");
                return super.visitIf(one, names);
            }

            @Override
            public Void visitReturn(ReturnTree r, List<String> names) {
                if (r.getExpression() != null) {
                    for (String other : List.of("0", "1", "null", "true", "false", "this")) {
                        put(r.getExpression(), other);
                    }
                }
                return super.visitReturn(r, names);
            }

            @Override
            public Void visitMethodInvocation(MethodInvocationTree call, List<String> names) {
                List<? extends ExpressionTree> all = call.getArguments();
                for (int i = 0; i < all.size(); i++) {
                    for (int k = i + 1; k < all.size(); k++) {
                        int a = start(all.get(i)), b = end(all.get(i)), c = start(all.get(k)), e = end(all.get(k));
                        add(a, e, text(all.get(k)) + source.substring(b, c) + text(all.get(i)));
                    }
                }
                return super.visitMethodInvocation(call, names);
            }

            private int start(Tree one) {
                return (int) places.getStartPosition(unit, one);
            }

            private int end(Tree one) {
                return (int) places.getEndPosition(unit, one);
            }

            private String text(Tree one) {
                return source.substring(start(one), end(one));
            }

            private void put(Tree one, String other) {
                add(start(one), end(one), other);
            }

            private void add(int start, int end, String other) {
                String was = source.substring(start, end);
                if (!was.equals(other)) {
                    mutants.add(new Mutant(start, was.replaceAll("\\s+", " ") + " -> " + other.replaceAll("\\s+", " "), source.substring(0, start) + other + source.substring(end)));
                }
            }
        }.scan(unit, null);
    }

    private static String side(List<String> lines, String sign) {
        return lines.stream().skip(1).filter(l -> l.startsWith(sign)).map(l -> l.substring(1)).collect(Collectors.joining("\n"));
    }

    private void replace(String what, Function<Matcher, List<String>> by) {
        Matcher m = Pattern.compile(what).matcher(source);
        while (m.find()) {
            int line = source.lastIndexOf('\n', m.start()) + 1;
            String ahead = source.substring(line, m.start());
            if (ahead.contains("//") || ahead.trim().startsWith("*") || ahead.contains("/**") || ahead.contains("\"")) {
                continue;
            }
            for (String other : by.apply(m)) {
                mutants.add(new Mutant(m.start(), m.group() + " -> " + other, source.substring(0, m.start()) + other + source.substring(m.end())));
            }
        }
    }

    private int lineOf(int at) {
        return (int) source.substring(0, at).chars().filter(c -> c == '\n').count() + 1;
    }

    private void runAll(List<String> tests, boolean readings) throws Exception {
        Path classes = Files.createTempDirectory("tests");
        try (Stream<Path> files = Files.list(TESTS)) {
            List<String> arguments = new ArrayList<>(List.of("-encoding", "UTF-8", "-d", classes.toString(), PROGRAM.toString()));
            files.map(Path::toString).filter(f -> f.endsWith(".java")).forEach(arguments::add);
            ToolProvider.getSystemJavaCompiler().run(null, null, null, arguments.toArray(new String[0]));
        }
        ExecutorService pool = Executors.newFixedThreadPool(Runtime.getRuntime().availableProcessors());
        List<Future<String>> ends = new ArrayList<>();
        for (Mutant m : mutants) {
            ends.add(pool.submit(() -> endOf(m, classes, tests)));
        }
        int seen = 0;
        for (int i = 0; i < mutants.size(); i++) {
            String end = ends.get(i).get();
            if (end.equals("no program") && readings) {
                System.out.println("no program: " + mutants.get(i).what);
            }
            if (end.equals("unseen")) {
                int line = lineOf(mutants.get(i).at);
                System.out.println(line + ": " + mutants.get(i).what + "   | " + source.split("\n")[line - 1].trim());
            } else {
                seen++;
            }
        }
        pool.shutdown();
        System.out.println(mutants.size() + " breaks, " + (mutants.size() - seen) + " unseen");
    }

    private static String endOf(Mutant m, Path classes, List<String> tests) throws IOException, InterruptedException {
        Path place = Files.createTempDirectory("mutant");
        try {
            if (!compile(m.text, place)) {
                return "no program";
            }
            for (String test : tests) {
                Process p = new ProcessBuilder("java", "-XX:TieredStopAtLevel=1", "-XX:+UseSerialGC", "-cp", place + ":" + classes, test)
                    .redirectErrorStream(true).redirectOutput(ProcessBuilder.Redirect.DISCARD).start();
                if (!p.waitFor(60, TimeUnit.SECONDS)) {
                    p.destroyForcibly();
                    return "no end";
                }
                if (p.exitValue() != 0) {
                    return test;
                }
            }
            return "unseen";
        } finally {
            try (Stream<Path> files = Files.list(place)) {
                files.forEach(f -> f.toFile().delete());
            }
            Files.delete(place);
        }
    }

    private static boolean compile(String text, Path place) throws IOException {
        JavaCompiler compiler = ToolProvider.getSystemJavaCompiler();
        try (StandardJavaFileManager files = compiler.getStandardFileManager(null, null, null)) {
            files.setLocation(StandardLocation.CLASS_OUTPUT, List.of(place.toFile()));
            return compiler.getTask(new StringWriter(), files, d -> { }, List.of("-nowarn"), null, List.of(memory(text))).call();
        }
    }

    private static SimpleJavaFileObject memory(String text) {
        return new SimpleJavaFileObject(URI.create("string:///LogSawyer.java"), SimpleJavaFileObject.Kind.SOURCE) {
            @Override
            public CharSequence getCharContent(boolean ignored) {
                return text;
            }
        };
    }
}
