import com.sun.source.tree.ArrayAccessTree;
import com.sun.source.tree.AssignmentTree;
import com.sun.source.tree.BinaryTree;
import com.sun.source.tree.ClassTree;
import com.sun.source.tree.CompilationUnitTree;
import com.sun.source.tree.CompoundAssignmentTree;
import com.sun.source.tree.ExpressionTree;
import com.sun.source.tree.ImportTree;
import com.sun.source.tree.InstanceOfTree;
import com.sun.source.tree.MethodInvocationTree;
import com.sun.source.tree.MethodTree;
import com.sun.source.tree.NewArrayTree;
import com.sun.source.tree.NewClassTree;
import com.sun.source.tree.Tree;
import com.sun.source.tree.Tree.Kind;
import com.sun.source.tree.TypeCastTree;
import com.sun.source.tree.UnaryTree;
import com.sun.source.tree.VariableTree;
import com.sun.source.util.JavacTask;
import com.sun.source.util.TreePathScanner;
import com.sun.source.util.Trees;
import java.io.IOException;
import java.nio.file.Files;
import java.nio.file.Path;
import java.util.ArrayList;
import java.util.Collection;
import java.util.EnumSet;
import java.util.LinkedHashMap;
import java.util.LinkedHashSet;
import java.util.List;
import java.util.Map;
import java.util.Set;
import javax.lang.model.element.Element;
import javax.lang.model.element.ElementKind;
import javax.lang.model.element.ExecutableElement;
import javax.lang.model.element.Modifier;
import javax.lang.model.element.TypeElement;
import javax.lang.model.element.VariableElement;
import javax.lang.model.type.ArrayType;
import javax.lang.model.type.DeclaredType;
import javax.lang.model.type.TypeKind;
import javax.lang.model.type.TypeMirror;
import javax.tools.JavaCompiler;
import javax.tools.StandardJavaFileManager;
import javax.tools.ToolProvider;

/** The form of the program: what the compiler's own tree of it shows of the rules in LANGUAGE.md. */
public final class LanguageTest {
    private static final Path PROGRAM = Path.of("src/main/java/LogSawyer.java");
    private static final int MOST_DEEP = 8, MOST_CLASSES = 12, MOST_FIELDS = 20, MOST_LINES = 60, MOST_PARAMETERS = 7;

    // What the program uses of the library; rule 4 would leave more.
    private static final Set<String> LIBRARY = Set.of("java.lang.Math.min", "java.lang.Math.max", "java.lang.Math.abs",
        "java.lang.Integer.bitCount", "java.lang.String.indexOf", "java.lang.System.arraycopy", "java.util.Arrays.fill");
    private static final Set<Kind> NEVER = EnumSet.of(Kind.THROW, Kind.TRY, Kind.SYNCHRONIZED, Kind.ASSERT, Kind.LAMBDA_EXPRESSION,
        Kind.MEMBER_REFERENCE, Kind.FLOAT_LITERAL, Kind.DOUBLE_LITERAL, Kind.ANNOTATION, Kind.SWITCH_EXPRESSION, Kind.YIELD,
        Kind.BINDING_PATTERN);

    private static final Due d = new Due();

    public static void main(String[] args) throws IOException {
        d.part("language");
        String text = Files.readString(PROGRAM);
        d.due("signs that are none of 32 .. 126", text.chars().filter(c -> c > 126 || c < 32 && c != '\n').count(), 0);
        JavaCompiler compiler = ToolProvider.getSystemJavaCompiler();
        try (StandardJavaFileManager files = compiler.getStandardFileManager(null, null, null)) {
            JavacTask task = (JavacTask) compiler.getTask(null, files, null, List.of("-proc:none"), null, files.getJavaFileObjects(PROGRAM));
            CompilationUnitTree unit = task.parse().iterator().next();
            task.analyze();
            Reader reader = new Reader(Trees.instance(task), unit);
            reader.scan(unit, null);
            reader.end();
        }
        d.end("LanguageTest");
    }

    private static final class Reader extends TreePathScanner<Void, Void> {
        private final Trees trees;
        private final CompilationUnitTree unit;
        private final Map<ExecutableElement, Set<ExecutableElement>> calls = new LinkedHashMap<>();
        private final Set<String> used = new LinkedHashSet<>();
        private final List<TypeElement> classes = new ArrayList<>();
        private final Map<ExecutableElement, Integer> deep = new LinkedHashMap<>();
        private ExecutableElement within = null;

        Reader(Trees trees, CompilationUnitTree unit) {
            this.trees = trees;
            this.unit = unit;
        }

        private Element element() {
            return trees.getElement(getCurrentPath());
        }

        private Element element(Tree tree) {
            return trees.getElement(trees.getPath(unit, tree));
        }

        private TypeMirror type(Tree tree) {
            return trees.getTypeMirror(trees.getPath(unit, tree));
        }

        private long line(Tree tree) {
            return unit.getLineMap().getLineNumber(trees.getSourcePositions().getStartPosition(unit, tree));
        }

        private void wrong(Tree tree, String words) {
            d.fail("line " + line(tree) + ": " + words);
        }

        @Override
        public Void scan(Tree tree, Void none) {
            if (tree != null && NEVER.contains(tree.getKind())) {
                wrong(tree, "rules 2, 3, 6: " + tree.getKind());
            }
            return super.scan(tree, none);
        }

        @Override
        public Void visitCompilationUnit(CompilationUnitTree tree, Void none) {
            d.due("rule 1: a package line", tree.getPackageName() == null ? 0 : 1, 0);
            d.due("rule 1: classes besides the one", tree.getTypeDecls().size(), 1);
            for (ImportTree one : tree.getImports()) {
                d.due("rule 4: " + one, one.getQualifiedIdentifier().toString().equals("java.util.Arrays") && !one.isStatic() ? 1 : 0, 1);
            }
            return super.visitCompilationUnit(tree, none);
        }

        @Override
        public Void visitClass(ClassTree tree, Void none) {
            TypeElement one = (TypeElement) element();
            boolean outer = one.getEnclosingElement().getKind() == ElementKind.PACKAGE;
            if (!outer && (tree.getSimpleName().length() == 0 || !one.getModifiers().contains(Modifier.STATIC)
                    || one.getModifiers().contains(Modifier.PUBLIC) || one.getModifiers().contains(Modifier.PROTECTED))) {
                wrong(tree, "rules 1, 2: a class inside is static, has a name, can't be seen");
            }
            classes.add(one);
            int fields = 0;
            for (Element member : one.getEnclosedElements()) {
                boolean isStatic = member.getModifiers().contains(Modifier.STATIC);
                fields += member.getKind() == ElementKind.FIELD && !isStatic ? 1 : 0;
                if (member.getKind() == ElementKind.FIELD && isStatic && !member.getModifiers().contains(Modifier.FINAL)) {
                    wrong(tree, "rule 5: " + member + " is static and not final");
                }
                if (member.getKind() == ElementKind.STATIC_INIT || member.getKind() == ElementKind.INSTANCE_INIT) {
                    wrong(tree, "rule 5: a block of initialisers");
                }
            }
            d.due("rule 11: fields of " + one, Math.max(fields, MOST_FIELDS), MOST_FIELDS);
            return super.visitClass(tree, none);
        }

        @Override
        public Void visitMethod(MethodTree tree, Void none) {
            within = (ExecutableElement) element();
            calls.put(within, new LinkedHashSet<>());
            long lines = unit.getLineMap().getLineNumber(trees.getSourcePositions().getEndPosition(unit, tree)) - line(tree) + 1;
            if (lines > MOST_LINES || tree.getParameters().size() > MOST_PARAMETERS || !tree.getThrows().isEmpty()) {
                wrong(tree, "rule 11: " + within + " has " + lines + " lines, " + tree.getParameters().size() + " parameters");
            }
            String name = within.getSimpleName().toString();
            if (name.equals("equals") || name.equals("hashCode") || name.equals("toString") || name.equals("finalize")) {
                wrong(tree, "rule 6: " + name);
            }
            super.visitMethod(tree, none);
            within = null;
            return null;
        }

        @Override
        public Void visitVariable(VariableTree tree, Void none) {
            VariableElement v = (VariableElement) element();
            if (!canBe(v.asType())) {
                wrong(tree, "rule 3: " + v + " is a " + v.asType());
            }
            if (v.getModifiers().contains(Modifier.STATIC) && !isConstant(tree)) {
                wrong(tree, "rule 5: " + v + " is no constant, no array of numbers written out");
            }
            return super.visitVariable(tree, none);
        }

        private static boolean isNumber(TypeMirror type) {
            return type.getKind() == TypeKind.INT || type.getKind() == TypeKind.LONG;
        }

        /** Numbers, boolean, String, classes of the program's own, and rows of all but String. */
        private boolean canBe(TypeMirror type) {
            if (type.getKind() == TypeKind.ARRAY) {
                TypeMirror part = ((ArrayType) type).getComponentType();
                return part.getKind() != TypeKind.ARRAY && canBe(part) && !part.toString().equals("java.lang.String");
            }
            return isNumber(type) || type.getKind() == TypeKind.BOOLEAN || isOwn(type) || type.toString().equals("java.lang.String");
        }

        private boolean isOwn(TypeMirror type) {
            return type.getKind() == TypeKind.DECLARED && isOwn(((DeclaredType) type).asElement());
        }

        private boolean isOwn(Element one) {
            Element top = one;
            while (top.getEnclosingElement() != null && top.getEnclosingElement().getKind() != ElementKind.PACKAGE) {
                top = top.getEnclosingElement();
            }
            return top.toString().equals("LogSawyer");
        }

        private boolean isConstant(VariableTree tree) {
            VariableElement v = (VariableElement) element(tree);
            if (v.getConstantValue() != null) {
                return true;
            }
            return tree.getInitializer() instanceof NewArrayTree row && row.getInitializers() != null
                && isNumber(((ArrayType) v.asType()).getComponentType());
        }

        @Override
        public Void visitMethodInvocation(MethodInvocationTree tree, Void none) {
            call((ExecutableElement) element(tree.getMethodSelect()), tree);
            return super.visitMethodInvocation(tree, none);
        }

        @Override
        public Void visitNewClass(NewClassTree tree, Void none) {
            if (tree.getClassBody() != null || !isOwn(element())) {
                wrong(tree, "rules 2, 4: new " + tree.getIdentifier());
            }
            call((ExecutableElement) element(), tree);
            return super.visitNewClass(tree, none);
        }

        private void call(ExecutableElement method, Tree tree) {
            if (isOwn(method)) {
                if (within != null) {
                    calls.get(within).add(method);
                }
                return;
            }
            String name = method.getEnclosingElement() + "." + method.getSimpleName();
            if (method.getKind() == ElementKind.CONSTRUCTOR && name.startsWith("java.lang.Object.")) {
                return;
            }
            used.add(name);
            if (!LIBRARY.contains(name)) {
                wrong(tree, "rule 4: " + name);
            }
            if (within != null) {
                calls.get(within).add(method);
            }
        }

        @Override
        public Void visitTypeCast(TypeCastTree tree, Void none) {
            if (!type(tree).getKind().isPrimitive()) {
                wrong(tree, "rule 6: a cast that could fail");
            }
            return super.visitTypeCast(tree, none);
        }

        @Override
        public Void visitInstanceOf(InstanceOfTree tree, Void none) {
            if (tree.getPattern() != null || !isOwn(type(tree.getType()))) {
                wrong(tree, "rule 6: instanceof");
            }
            return super.visitInstanceOf(tree, none);
        }

        @Override
        public Void visitBinary(BinaryTree tree, Void none) {
            boolean same = tree.getKind() == Kind.EQUAL_TO || tree.getKind() == Kind.NOT_EQUAL_TO;
            for (ExpressionTree side : List.of(tree.getLeftOperand(), tree.getRightOperand())) {
                String name = type(side).toString();
                if (name.equals("java.lang.String") || name.equals("java.lang.Integer") || !same && !type(side).getKind().isPrimitive()) {
                    wrong(tree, "rules 6, 10: " + tree);
                }
            }
            return super.visitBinary(tree, none);
        }

        @Override
        public Void visitAssignment(AssignmentTree tree, Void none) {
            changes(tree.getVariable());
            return super.visitAssignment(tree, none);
        }

        @Override
        public Void visitCompoundAssignment(CompoundAssignmentTree tree, Void none) {
            changes(tree.getVariable());
            return super.visitCompoundAssignment(tree, none);
        }

        @Override
        public Void visitUnary(UnaryTree tree, Void none) {
            if (tree.getKind().toString().endsWith("CREMENT")) {
                changes(tree.getExpression());
            }
            return super.visitUnary(tree, none);
        }

        private void changes(ExpressionTree place) {
            if (place instanceof ArrayAccessTree at) {
                Element row = element(at.getExpression());
                if (row != null && row.getModifiers().contains(Modifier.STATIC)) {
                    wrong(place, "rule 5: " + row + " is changed");
                }
            }
        }

        void end() {
            d.due("rule 11: classes", Math.max(classes.size(), MOST_CLASSES), MOST_CLASSES);
            d.due("what is used of the library: " + used, used.size(), LIBRARY.size());
            d.due("methods were looked at", calls.size() > 100 ? 1 : 0, 1);
            for (ExecutableElement method : calls.keySet()) {
                if (method.getModifiers().contains(Modifier.PUBLIC)) {
                    int levels = deep(method, new ArrayList<>());
                    d.due("rule 11: calls deep from " + method, Math.max(levels, MOST_DEEP), MOST_DEEP);
                }
            }
        }

        /** How many calls stand open at most, this one too; a call of an abstract thing goes to all that may be meant. */
        private int deep(ExecutableElement method, List<ExecutableElement> open) {
            if (open.contains(method)) {
                d.fail("rule 8: " + method + " calls itself by way of " + open);
                return 0;
            }
            if (deep.containsKey(method)) {
                return deep.get(method);
            }
            open.add(method);
            int most = 0;
            for (ExecutableElement called : calls.getOrDefault(method, Set.of())) {
                most = Math.max(most, isOwn(called) ? deepest(called, method, open) : 1);
            }
            open.remove(method);
            deep.put(method, most + 1);
            return most + 1;
        }

        private int deepest(ExecutableElement called, ExecutableElement from, List<ExecutableElement> open) {
            int most = 0;
            for (ExecutableElement one : meant(called, from)) {
                most = Math.max(most, deep(one, open));
            }
            return most;
        }

        /** The method itself, or those that stand in its place in a class under its own; super's is itself alone. */
        private Collection<ExecutableElement> meant(ExecutableElement called, ExecutableElement from) {
            Set<ExecutableElement> all = new LinkedHashSet<>(List.of(called));
            boolean bySuper = from.getSimpleName().equals(called.getSimpleName());
            for (ExecutableElement other : calls.keySet()) {
                boolean same = other.getSimpleName().equals(called.getSimpleName()) && other.getKind() == ElementKind.METHOD
                    && other.getParameters().size() == called.getParameters().size();
                if (same && !bySuper && isUnder((TypeElement) other.getEnclosingElement(), called.getEnclosingElement())) {
                    all.add(other);
                }
            }
            return all;
        }

        private boolean isUnder(TypeElement one, Element above) {
            TypeMirror up = one.getSuperclass();
            while (up.getKind() == TypeKind.DECLARED) {
                Element parent = ((DeclaredType) up).asElement();
                if (parent.equals(above)) {
                    return true;
                }
                up = ((TypeElement) parent).getSuperclass();
            }
            return false;
        }
    }
}
