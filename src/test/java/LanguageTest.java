import com.sun.source.tree.ArrayTypeTree;
import com.sun.source.tree.AssertTree;
import com.sun.source.tree.BinaryTree;
import com.sun.source.tree.ClassTree;
import com.sun.source.tree.CompilationUnitTree;
import com.sun.source.tree.CompoundAssignmentTree;
import com.sun.source.tree.DoWhileLoopTree;
import com.sun.source.tree.EnhancedForLoopTree;
import com.sun.source.tree.ExpressionTree;
import com.sun.source.tree.ForLoopTree;
import com.sun.source.tree.LambdaExpressionTree;
import com.sun.source.tree.MemberReferenceTree;
import com.sun.source.tree.MethodInvocationTree;
import com.sun.source.tree.MethodTree;
import com.sun.source.tree.NewArrayTree;
import com.sun.source.tree.NewClassTree;
import com.sun.source.tree.SynchronizedTree;
import com.sun.source.tree.ThrowTree;
import com.sun.source.tree.Tree;
import com.sun.source.tree.TryTree;
import com.sun.source.tree.TypeCastTree;
import com.sun.source.tree.VariableTree;
import com.sun.source.tree.WhileLoopTree;
import com.sun.source.util.JavacTask;
import com.sun.source.util.TreePathScanner;
import com.sun.source.util.Trees;
import java.io.IOException;
import java.nio.file.Path;
import java.util.ArrayList;
import java.util.HashSet;
import java.util.LinkedHashMap;
import java.util.LinkedHashSet;
import java.util.List;
import java.util.Map;
import java.util.Set;
import javax.lang.model.element.Element;
import javax.lang.model.element.ElementKind;
import javax.lang.model.element.Modifier;
import javax.lang.model.element.VariableElement;
import javax.tools.JavaCompiler;
import javax.tools.StandardJavaFileManager;
import javax.tools.ToolProvider;

/** The class keeps to LANGUAGE.md, as far as that can be seen in its tree; each line names the rule that is broken. */
public final class LanguageTest {
    private static final String SOURCE = "src/main/java/WorkedBack.java";
    private static final int LINES_MOST = 60, PARAMETERS_MOST = 7, DEPTH_MOST = 8, CLASSES_MOST = 12, FIELDS_MOST = 20;
    /** All of the library that the class uses; rule 4 has more, which may be added here. */
    private static final Set<String> LIBRARY = Set.of("java.lang.Math.max(int,int)", "java.lang.Math.min(int,int)",
            "java.lang.Integer.bitCount(int)", "java.lang.Long.bitCount(long)",
            "java.lang.System.arraycopy(java.lang.Object,int,java.lang.Object,int,int)");
    private static final Set<String> TYPES = Set.of("int", "long", "boolean", "void");

    private static int wrong;
    private static int seen;

    private static void hold(boolean so, String rule) {
        seen++;
        if (!so) {
            wrong++;
            System.out.println("broken: " + rule);
        }
    }

    private static final class Scan extends TreePathScanner<Void, Void> {
        private final Trees trees;
        private final CompilationUnitTree unit;
        private final Map<Element, Set<Element>> calls = new LinkedHashMap<>();
        private final Set<String> face = new HashSet<>();
        private Element caller;
        private int classes;

        Scan(Trees trees, CompilationUnitTree unit) {
            this.trees = trees;
            this.unit = unit;
        }

        private long line(long at) {
            return unit.getLineMap().getLineNumber(at);
        }

        private String at(Tree tree) {
            return " (line " + line(trees.getSourcePositions().getStartPosition(unit, tree)) + ")";
        }

        private Element element() {
            return trees.getElement(getCurrentPath());
        }

        private static boolean isOwn(Element e) {
            return e != null && e.toString().length() > 0 && outermost(e).equals("WorkedBack");
        }

        private static String outermost(Element e) {
            Element top = e;
            while (top.getEnclosingElement() != null && top.getEnclosingElement().getKind() != ElementKind.PACKAGE) {
                top = top.getEnclosingElement();
            }
            return top.getSimpleName().toString();
        }

        @Override public Void visitClass(ClassTree tree, Void v) {
            Element e = element();
            boolean inside = e.getEnclosingElement().getKind() != ElementKind.PACKAGE;
            classes++;
            if (inside) hold(e.getModifiers().contains(Modifier.STATIC), "2: classes inside are static" + at(tree));
            long fields = tree.getMembers().stream().filter(m -> m instanceof VariableTree f
                    && !f.getModifiers().getFlags().contains(Modifier.STATIC)).count();
            hold(fields <= FIELDS_MOST, "11: a class has some twenty fields" + at(tree));
            return super.visitClass(tree, v);
        }

        @Override public Void visitMethod(MethodTree tree, Void v) {
            Element e = element();
            boolean open = e.getModifiers().contains(Modifier.PUBLIC);
            if (open && outermost(e).equals(e.getEnclosingElement().getSimpleName().toString())) {
                face.add(tree.getName().toString());
            } else if (!tree.getName().contentEquals("<init>")) {
                hold(!face.contains(tree.getName().toString()), "1: no other method bears a name of the face" + at(tree));
            }
            long first = line(trees.getSourcePositions().getStartPosition(unit, tree));
            long last = line(Math.max(0, trees.getSourcePositions().getEndPosition(unit, tree)));
            hold(last - first < LINES_MOST, "11: methods stay short" + at(tree));
            hold(tree.getParameters().size() <= PARAMETERS_MOST, "11: seven parameters at most" + at(tree));
            hold(tree.getThrows().isEmpty(), "6: no call throws" + at(tree));
            Element outer = caller;
            caller = e;
            calls.computeIfAbsent(e, k -> new LinkedHashSet<>());
            super.visitMethod(tree, v);
            caller = outer;
            return null;
        }

        @Override public Void visitVariable(VariableTree tree, Void v) {
            Element e = element();
            String type = e.asType().toString();
            String base = type.replace("[]", "");
            hold(TYPES.contains(base) || base.startsWith("WorkedBack"), "3: types, " + type + at(tree));
            hold(!type.endsWith("[][]"), "3: arrays are of one dimension" + at(tree));
            boolean field = e.getKind() == ElementKind.FIELD;
            if (field && e.getModifiers().contains(Modifier.STATIC)) {
                hold(e.getModifiers().contains(Modifier.FINAL), "5: static fields are final" + at(tree));
                boolean constant = ((VariableElement) e).getConstantValue() != null;
                boolean row = tree.getInitializer() instanceof NewArrayTree made && made.getInitializers() != null;
                hold(constant || row, "5: static fields are constants or rows that are written out" + at(tree));
            } else if (field) {
                hold(e.getModifiers().contains(Modifier.PRIVATE), "1: no field is seen from outside" + at(tree));
            }
            return super.visitVariable(tree, v);
        }

        @Override public Void visitMethodInvocation(MethodInvocationTree tree, Void v) {
            Element e = element();
            boolean above = e.getKind() == ElementKind.CONSTRUCTOR;
            if (isOwn(e)) {
                if (caller != null) calls.get(caller).add(e);
            } else if (!above) {
                String name = e.getEnclosingElement() + "." + e;
                hold(LIBRARY.contains(name), "4: the library, " + name + at(tree));
            }
            return super.visitMethodInvocation(tree, v);
        }

        @Override public Void visitNewClass(NewClassTree tree, Void v) {
            hold(isOwn(element()), "4: no object of the library is made" + at(tree));
            hold(tree.getClassBody() == null, "2: no class without a name" + at(tree));
            boolean held = caller == null || caller.getKind() == ElementKind.CONSTRUCTOR;
            hold(held, "12: objects are made with the object alone" + at(tree));
            return super.visitNewClass(tree, v);
        }

        @Override public Void visitNewArray(NewArrayTree tree, Void v) {
            boolean held = caller == null || caller.getKind() == ElementKind.CONSTRUCTOR;
            hold(held, "12: rows are made with the object alone" + at(tree));
            return super.visitNewArray(tree, v);
        }

        /** A divisor that is a constant other than 0 needs no look at it. */
        private void divides(Tree tree, ExpressionTree by) {
            Element e = trees.getElement(new com.sun.source.util.TreePath(getCurrentPath(), by));
            Object value = by instanceof com.sun.source.tree.LiteralTree told ? told.getValue()
                    : e instanceof VariableElement constant ? constant.getConstantValue() : null;
            boolean fine = value instanceof Integer number && number != 0;
            hold(fine, "7: a divisor is a constant other than 0" + at(tree));
        }

        @Override public Void visitBinary(BinaryTree tree, Void v) {
            if (tree.getKind() == Tree.Kind.DIVIDE || tree.getKind() == Tree.Kind.REMAINDER) {
                divides(tree, tree.getRightOperand());
            }
            return super.visitBinary(tree, v);
        }

        @Override public Void visitCompoundAssignment(CompoundAssignmentTree tree, Void v) {
            boolean part = tree.getKind() == Tree.Kind.DIVIDE_ASSIGNMENT
                    || tree.getKind() == Tree.Kind.REMAINDER_ASSIGNMENT;
            if (part) divides(tree, tree.getExpression());
            return super.visitCompoundAssignment(tree, v);
        }

        @Override public Void visitForLoop(ForLoopTree tree, Void v) {
            String till = String.valueOf(tree.getCondition());
            boolean counts = tree.getInitializer().size() == 1 && tree.getUpdate().size() == 1;
            hold(counts && (till.contains("<") || till.contains(">")), "9: a loop counts against a bound" + at(tree));
            return super.visitForLoop(tree, v);
        }

        @Override public Void visitWhileLoop(WhileLoopTree tree, Void v) { return not(tree, "9: a loop without a counter"); }
        @Override public Void visitDoWhileLoop(DoWhileLoopTree tree, Void v) { return not(tree, "9: a loop without a counter"); }
        @Override public Void visitEnhancedForLoop(EnhancedForLoopTree tree, Void v) { return super.visitEnhancedForLoop(tree, v); }
        @Override public Void visitTry(TryTree tree, Void v) { return not(tree, "6: try"); }
        @Override public Void visitThrow(ThrowTree tree, Void v) { return not(tree, "6: the document asks for no throw"); }
        @Override public Void visitLambdaExpression(LambdaExpressionTree tree, Void v) { return not(tree, "2: lambda"); }
        @Override public Void visitMemberReference(MemberReferenceTree tree, Void v) { return not(tree, "2: reference"); }
        @Override public Void visitSynchronized(SynchronizedTree tree, Void v) { return not(tree, "6: synchronized"); }
        @Override public Void visitAssert(AssertTree tree, Void v) { return not(tree, "6: assert"); }
        @Override public Void visitTypeCast(TypeCastTree tree, Void v) { return not(tree, "7: a cast that nobody needs"); }
        @Override public Void visitArrayType(ArrayTypeTree tree, Void v) { return super.visitArrayType(tree, v); }

        private Void not(Tree tree, String rule) {
            hold(false, rule + at(tree));
            return null;
        }

        /** How many calls stand open at once from here on; a call that comes back to itself is told. */
        private int depth(Element from, List<Element> open) {
            if (open.contains(from)) {
                hold(false, "8: " + from + " calls itself");
                return 0;
            }
            open.add(from);
            int most = 0;
            for (Element next : calls.getOrDefault(from, Set.of())) most = Math.max(most, depth(next, open));
            open.remove(open.size() - 1);
            return most + 1;
        }

        void end() {
            hold(classes <= CLASSES_MOST, "11: some twelve classes, " + classes);
            for (Element e : calls.keySet()) {
                int deep = depth(e, new ArrayList<>());
                hold(deep <= DEPTH_MOST, "11: calls go eight deep at most: " + e + " " + deep);
            }
        }
    }

    public static void main(String[] args) throws IOException {
        JavaCompiler compiler = ToolProvider.getSystemJavaCompiler();
        try (StandardJavaFileManager files = compiler.getStandardFileManager(null, null, null)) {
            JavacTask task = (JavacTask) compiler.getTask(null, files, null, List.of("-proc:none"), null,
                    files.getJavaFileObjects(Path.of(args.length > 0 ? args[0] : SOURCE)));
            for (CompilationUnitTree unit : task.parse()) {
                task.analyze();
                hold(unit.getPackageName() == null, "no package line");
                hold(unit.getImports().isEmpty(), "4: no import");
                hold(unit.getTypeDecls().size() == 1, "one class in the file");
                Scan scan = new Scan(Trees.instance(task), unit);
                scan.scan(unit, null);
                scan.end();
            }
        }
        System.out.println(seen + " places held against LANGUAGE.md, " + wrong + " wrong");
        if (wrong != 0 || seen < 1000) System.exit(1);
    }
}
