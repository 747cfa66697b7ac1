import com.sun.source.tree.ArrayAccessTree;
import com.sun.source.tree.ArrayTypeTree;
import com.sun.source.tree.AssignmentTree;
import com.sun.source.tree.BinaryTree;
import com.sun.source.tree.ClassTree;
import com.sun.source.tree.CompilationUnitTree;
import com.sun.source.tree.DoWhileLoopTree;
import com.sun.source.tree.ExpressionTree;
import com.sun.source.tree.ForLoopTree;
import com.sun.source.tree.LineMap;
import com.sun.source.tree.MethodInvocationTree;
import com.sun.source.tree.MethodTree;
import com.sun.source.tree.NewArrayTree;
import com.sun.source.tree.NewClassTree;
import com.sun.source.tree.Tree;
import com.sun.source.tree.TypeCastTree;
import com.sun.source.tree.VariableTree;
import com.sun.source.tree.WhileLoopTree;
import com.sun.source.util.JavacTask;
import com.sun.source.util.TreePath;
import com.sun.source.util.TreePathScanner;
import com.sun.source.util.Trees;
import java.io.IOException;
import java.nio.file.Files;
import java.nio.file.Path;
import java.util.ArrayList;
import java.util.EnumSet;
import java.util.List;
import java.util.Map;
import java.util.Set;
import java.util.TreeMap;
import java.util.TreeSet;
import javax.lang.model.element.Element;
import javax.lang.model.element.ElementKind;
import javax.lang.model.element.Modifier;
import javax.lang.model.element.TypeElement;
import javax.lang.model.element.VariableElement;
import javax.lang.model.type.ArrayType;
import javax.lang.model.type.TypeKind;
import javax.lang.model.type.TypeMirror;
import javax.tools.JavaCompiler;
import javax.tools.StandardJavaFileManager;
import javax.tools.ToolProvider;

/**
 * LANGUAGE.md, as far as the compiler's own tree of the file shows it. It is narrower than the rules in places:
 * what the class has no use for (lists, doubles, instanceof, objects made by calls) is not let in here.
 */
public final class LanguageTest {
    private static final Due due = new Due();
    /** Rule 4, but for lists, builders and the makers of texts. */
    private static final String LIBRARY =
            "java\\.lang\\.String\\.(length|charAt|isEmpty|equals|indexOf|substring|toCharArray)"
            + "|java\\.lang\\.(Integer|Long|Math)\\.(compare|max|min|abs|bitCount|floorDiv|floorMod)"
            + "|java\\.lang\\.System\\.arraycopy|java\\.util\\.Arrays\\.(copyOf|copyOfRange|fill)";
    private static final Set<Tree.Kind> RULED_OUT = EnumSet.of(Tree.Kind.THROW, Tree.Kind.TRY, Tree.Kind.CATCH,
            Tree.Kind.SYNCHRONIZED, Tree.Kind.ASSERT, Tree.Kind.LAMBDA_EXPRESSION, Tree.Kind.MEMBER_REFERENCE,
            Tree.Kind.INSTANCE_OF, Tree.Kind.SWITCH_EXPRESSION, Tree.Kind.ENHANCED_FOR_LOOP, Tree.Kind.ANNOTATION,
            Tree.Kind.PARAMETERIZED_TYPE);
    private static final int MOST_PARAMETERS = 7;
    private static final int MOST_LINES = 60;
    private static final int MOST_CLASSES = 12;
    private static final int MOST_FIELDS = 20;
    private static final int DEEPEST = 8;

    public static void main(String[] args) throws IOException {
        Path source = Path.of(System.getProperty("rubbed.source", "src/main/java/RubbedSheets.java"));
        is("rule 4: signs 1 to 127", Files.readString(source).chars().allMatch(sign -> sign >= 1 && sign <= 127));
        JavaCompiler compiler = ToolProvider.getSystemJavaCompiler();
        try (StandardJavaFileManager files = compiler.getStandardFileManager(null, null, null)) {
            JavacTask task = (JavacTask) compiler.getTask(null, files, null, List.of("-proc:none"), null,
                    files.getJavaFileObjects(source));
            Walk walk = new Walk(Trees.instance(task));
            for (CompilationUnitTree unit : task.parse()) {
                task.analyze();
                is("rule 0: no package", unit.getPackageName() == null);
                is("rule 0: one class at the top", unit.getTypeDecls().size() == 1);
                walk.lines = unit.getLineMap();
                walk.scan(unit, null);
            }
            is("rule 11: " + walk.classes + " classes", walk.classes <= MOST_CLASSES);
            calls(walk.calls);
        }
        due.end("LanguageTest");
    }

    private static void is(String what, boolean is) {
        due.is(what, is ? 1 : 0, 1);
    }

    /** Goes through the whole file, asks the rules of each place, and gathers who calls whom. */
    private static final class Walk extends TreePathScanner<Void, Void> {
        private final Trees trees;
        private final Map<String, Set<String>> calls = new TreeMap<>();
        private LineMap lines;
        private int classes = 0;
        private String method = null;
        private boolean isMaking = true;

        Walk(Trees trees) {
            this.trees = trees;
        }

        private String at(Tree tree) {
            long start = trees.getSourcePositions().getStartPosition(getCurrentPath().getCompilationUnit(), tree);
            return " in line " + lines.getLineNumber(start);
        }

        private long linesOf(Tree tree) {
            CompilationUnitTree unit = getCurrentPath().getCompilationUnit();
            long start = trees.getSourcePositions().getStartPosition(unit, tree);
            long end = trees.getSourcePositions().getEndPosition(unit, tree);
            return lines.getLineNumber(end) - lines.getLineNumber(start) + 1;
        }

        private Element element(Tree tree) {
            return trees.getElement(new TreePath(getCurrentPath(), tree));
        }

        private TypeMirror type(Tree tree) {
            return trees.getTypeMirror(new TreePath(getCurrentPath(), tree));
        }

        @Override
        public Void scan(Tree tree, Void none) {
            if (tree != null) {
                is("rules 2, 6: no " + tree.getKind(), !RULED_OUT.contains(tree.getKind()));
            }
            return super.scan(tree, none);
        }

        @Override
        public Void visitClass(ClassTree tree, Void none) {
            classes++;
            TypeElement of = (TypeElement) trees.getElement(getCurrentPath());
            String outer = method;
            // What stands in fields is called by the constructor.
            method = of + ".<init>";
            calls.computeIfAbsent(method, n -> new TreeSet<>());
            boolean isTop = getCurrentPath().getParentPath().getLeaf() instanceof CompilationUnitTree;
            Set<Modifier> has = of.getModifiers();
            is("rule 2: " + of + " is final, and static inside", has.contains(Modifier.FINAL)
                    && (isTop || has.contains(Modifier.STATIC)));
            is("rule 2: " + of + " is no local class",
                    isTop || getCurrentPath().getParentPath().getLeaf() instanceof ClassTree);
            int fields = 0;
            for (Tree member : tree.getMembers()) {
                boolean isOwnField = member instanceof VariableTree field
                        && !field.getModifiers().getFlags().contains(Modifier.STATIC);
                fields += isOwnField ? 1 : 0;
                is("rule 5: no block" + at(member), member.getKind() != Tree.Kind.BLOCK);
            }
            is("rule 11: " + fields + " fields of " + of, fields <= MOST_FIELDS);
            super.visitClass(tree, none);
            method = outer;
            return null;
        }

        @Override
        public Void visitMethod(MethodTree tree, Void none) {
            Element of = trees.getElement(getCurrentPath());
            String name = named(of);
            // By name alone: of two methods of one name the calls are taken together, which can only be deeper.
            calls.computeIfAbsent(name, n -> new TreeSet<>());
            is("rule 6: no " + name, !name.matches(".*\\.(equals|hashCode|toString)"));
            is("rule 6: " + name + " is not synchronized, native, or with throws", tree.getThrows().isEmpty()
                    && !of.getModifiers().contains(Modifier.SYNCHRONIZED) && !of.getModifiers().contains(Modifier.NATIVE));
            is("rule 11: parameters of " + name, tree.getParameters().size() <= MOST_PARAMETERS);
            is("rule 11: " + linesOf(tree) + " lines of " + name, linesOf(tree) <= MOST_LINES);
            String outer = method;
            boolean wasMaking = isMaking;
            method = name;
            isMaking = of.getKind() == ElementKind.CONSTRUCTOR;
            super.visitMethod(tree, none);
            method = outer;
            isMaking = wasMaking;
            return null;
        }

        @Override
        public Void visitVariable(VariableTree tree, Void none) {
            Element of = trees.getElement(getCurrentPath());
            is("rule 3: type of " + of + at(tree), isLet(of.asType(), 0));
            is("rule 13: " + of + " is not volatile", !of.getModifiers().contains(Modifier.VOLATILE));
            if (of.getModifiers().contains(Modifier.STATIC)) {
                is("rule 5: " + of + " is final", of.getModifiers().contains(Modifier.FINAL));
                boolean isConstant = of instanceof VariableElement field && field.getConstantValue() != null;
                boolean isWrittenOut = tree.getInitializer() instanceof NewArrayTree a && a.getInitializers() != null;
                is("rule 5: " + of + " is a constant or written out", isConstant || isWrittenOut);
            }
            return super.visitVariable(tree, none);
        }

        private static boolean isLet(TypeMirror type, int dimensions) {
            if (type.getKind() == TypeKind.ARRAY) {
                return dimensions < 2 && isLet(((ArrayType) type).getComponentType(), dimensions + 1);
            }
            if (type.getKind().isPrimitive()) {
                return type.getKind() != TypeKind.DOUBLE && type.getKind() != TypeKind.FLOAT;
            }
            boolean isText = type.toString().equals("java.lang.String");
            return dimensions < 2 && isOwn(type.toString()) || dimensions == 0 && isText;
        }

        private static boolean isOwn(String type) {
            return type.equals("RubbedSheets") || type.startsWith("RubbedSheets.");
        }

        private static String named(Element of) {
            return of.getEnclosingElement() + "." + of.getSimpleName();
        }

        @Override
        public Void visitMethodInvocation(MethodInvocationTree tree, Void none) {
            Element of = element(tree.getMethodSelect());
            String name = named(of);
            boolean isSuper = name.equals("java.lang.Object.<init>");
            boolean isOwn = isOwn(of.getEnclosingElement().toString());
            is("rule 4: " + name + at(tree), isSuper || isOwn || name.matches(LIBRARY));
            called(isSuper ? null : name);
            return super.visitMethodInvocation(tree, none);
        }

        private void called(String name) {
            if (name != null) {
                calls.get(method).add(name);
            }
        }

        @Override
        public Void visitNewClass(NewClassTree tree, Void none) {
            Element of = element(tree);
            boolean isOwn = isOwn(of.getEnclosingElement().toString());
            is("rule 4: own class" + at(tree), isOwn && tree.getClassBody() == null);
            is("rule 12: made with the object" + at(tree), isMaking);
            called(named(of));
            return super.visitNewClass(tree, none);
        }

        @Override
        public Void visitNewArray(NewArrayTree tree, Void none) {
            is("rule 12: made with the object" + at(tree), isMaking);
            return super.visitNewArray(tree, none);
        }

        @Override
        public Void visitTypeCast(TypeCastTree tree, Void none) {
            is("rule 6: a cast among numbers" + at(tree), type(tree.getType()).getKind().isPrimitive());
            return super.visitTypeCast(tree, none);
        }

        @Override
        public Void visitBinary(BinaryTree tree, Void none) {
            for (ExpressionTree side : List.of(tree.getLeftOperand(), tree.getRightOperand())) {
                is("rules 6, 10: numbers and bits alone at " + tree.getKind() + at(tree),
                        type(side).getKind().isPrimitive());
            }
            if (tree.getKind() == Tree.Kind.DIVIDE || tree.getKind() == Tree.Kind.REMAINDER) {
                String by = tree.getRightOperand().toString();
                is("rule 7: a divisor that is a constant above 0: " + by + at(tree),
                        by.equals("2") || by.equals("(CHOICES + 1)"));
            }
            return super.visitBinary(tree, none);
        }

        @Override
        public Void visitAssignment(AssignmentTree tree, Void none) {
            if (tree.getVariable() instanceof ArrayAccessTree access) {
                TreePath place = new TreePath(getCurrentPath(), access);
                Element row = trees.getElement(new TreePath(place, access.getExpression()));
                is("rule 5: a constant row is never changed" + at(tree),
                        row == null || !row.getModifiers().contains(Modifier.STATIC));
            }
            return super.visitAssignment(tree, none);
        }

        @Override
        public Void visitForLoop(ForLoopTree tree, Void none) {
            is("rule 9: a counter" + at(tree), tree.getInitializer().size() == 1 && tree.getUpdate().size() == 1);
            bounded(tree, tree.getCondition());
            return super.visitForLoop(tree, none);
        }

        @Override
        public Void visitWhileLoop(WhileLoopTree tree, Void none) {
            bounded(tree, tree.getCondition());
            return super.visitWhileLoop(tree, none);
        }

        @Override
        public Void visitDoWhileLoop(DoWhileLoopTree tree, Void none) {
            bounded(tree, tree.getCondition());
            return super.visitDoWhileLoop(tree, none);
        }

        private void bounded(Tree loop, ExpressionTree condition) {
            is("rule 9: a counter against a bound" + at(loop),
                    condition != null && condition.toString().matches("(?s).*[<>]=? .*"));
        }

        @Override
        public Void visitArrayType(ArrayTypeTree tree, Void none) {
            boolean isTwo = tree.getType() instanceof ArrayTypeTree;
            is("rule 3: two dimensions of numbers alone" + at(tree),
                    !isTwo || tree.toString().matches("(int|long|byte|short|char)\\[\\]\\[\\]"));
            return super.visitArrayType(tree, none);
        }
    }

    // ---- rules 8 and 11: how deep calls go

    private static void calls(Map<String, Set<String>> calls) {
        Map<String, Set<String>> reached = new TreeMap<>();
        for (String from : calls.keySet()) {
            reached.put(from, new TreeSet<>());
            reach(calls, from, reached.get(from));
        }
        for (String name : calls.keySet()) {
            boolean isRound = reached.get(name).contains(name);
            is("rule 8: only the reader's grammar calls itself, not " + name,
                    !isRound || name.matches("RubbedSheets\\.Reader\\.(either|both|denied|compared|sum|part)"));
        }
        for (String name : calls.keySet()) {
            List<String> chain = longest(calls, reached, name);
            is("rule 11: " + chain.size() + " deep, what calls itself taken as one: " + chain, chain.size() <= DEEPEST);
        }
    }

    private static void reach(Map<String, Set<String>> calls, String from, Set<String> seen) {
        for (String to : calls.getOrDefault(from, Set.of())) {
            if (seen.add(to)) {
                reach(calls, to, seen);
            }
        }
    }

    private static boolean areRound(Map<String, Set<String>> reached, String a, String b) {
        return a.equals(b) || reached.getOrDefault(a, Set.of()).contains(b)
                && reached.getOrDefault(b, Set.of()).contains(a);
    }

    /** The longest chain of calls from here on; methods that call one another in a round are one of its links. */
    private static List<String> longest(Map<String, Set<String>> calls, Map<String, Set<String>> reached, String from) {
        List<String> best = List.of();
        for (String mate : calls.containsKey(from) ? calls.keySet() : Set.<String>of()) {
            if (!areRound(reached, from, mate)) {
                continue;
            }
            for (String to : calls.get(mate)) {
                if (!areRound(reached, from, to)) {
                    List<String> behind = longest(calls, reached, to);
                    best = behind.size() > best.size() ? behind : best;
                }
            }
        }
        List<String> chain = new ArrayList<>(List.of(from));
        chain.addAll(best);
        return chain;
    }
}
