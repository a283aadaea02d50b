import com.sun.source.tree.AssertTree;
import com.sun.source.tree.BinaryTree;
import com.sun.source.tree.BlockTree;
import com.sun.source.tree.ClassTree;
import com.sun.source.tree.CompilationUnitTree;
import com.sun.source.tree.CompoundAssignmentTree;
import com.sun.source.tree.DoWhileLoopTree;
import com.sun.source.tree.ExpressionTree;
import com.sun.source.tree.ForLoopTree;
import com.sun.source.tree.ImportTree;
import com.sun.source.tree.LambdaExpressionTree;
import com.sun.source.tree.LiteralTree;
import com.sun.source.tree.MemberReferenceTree;
import com.sun.source.tree.MethodInvocationTree;
import com.sun.source.tree.MethodTree;
import com.sun.source.tree.ModifiersTree;
import com.sun.source.tree.NewArrayTree;
import com.sun.source.tree.NewClassTree;
import com.sun.source.tree.SynchronizedTree;
import com.sun.source.tree.ThrowTree;
import com.sun.source.tree.Tree;
import com.sun.source.tree.TryTree;
import com.sun.source.tree.TypeCastTree;
import com.sun.source.tree.VariableTree;
import com.sun.source.tree.WhileLoopTree;
import com.sun.source.util.JavacTask;
import com.sun.source.util.SourcePositions;
import com.sun.source.util.TreePath;
import com.sun.source.util.TreePathScanner;
import com.sun.source.util.Trees;
import java.nio.charset.StandardCharsets;
import java.nio.file.Files;
import java.nio.file.Path;
import java.util.ArrayList;
import java.util.List;
import java.util.Map;
import java.util.Set;
import java.util.TreeMap;
import java.util.TreeSet;
import java.util.regex.Matcher;
import java.util.regex.Pattern;
import javax.lang.model.element.Element;
import javax.lang.model.element.ElementKind;
import javax.lang.model.element.ExecutableElement;
import javax.lang.model.element.Modifier;
import javax.lang.model.type.ArrayType;
import javax.lang.model.type.TypeKind;
import javax.lang.model.type.TypeMirror;
import javax.tools.JavaCompiler;
import javax.tools.ToolProvider;

/**
 * Looks at how the program is written: its face as the document tells it, and the rules of LANGUAGE.md that can be
 * seen in its text. It is narrower than these rules where the program needs less of Java than they let.
 */
public final class LanguageTest {
    private static final Path MAIN = Path.of("src/main/java/Pagedocument.java");
    private static final Path DOCUMENT = Path.of("../shared/DOC.md");
    private static final Set<String> THROWN = Set.of("IllegalStateException", "IllegalArgumentException",
            "IndexOutOfBoundsException");
    private static final Set<String> LIBRARY = Set.of("String.length", "String.charAt", "String.isEmpty", "String.equals",
            "String.indexOf", "String.substring", "String.toCharArray", "StringBuilder.append", "StringBuilder.charAt",
            "StringBuilder.setCharAt", "StringBuilder.setLength", "StringBuilder.deleteCharAt", "StringBuilder.reverse",
            "StringBuilder.length", "StringBuilder.toString", "Math.abs", "Math.max", "Math.min", "Math.floorDiv",
            "Math.floorMod", "System.arraycopy", "Arrays.copyOf", "Arrays.copyOfRange", "Arrays.fill");
    private static final int MOST_LINES = 60;
    private static final int MOST_PARAMETERS = 7;
    private static final int MOST_CLASSES = 12;
    private static final int MOST_FIELDS = 21;
    private static final int MOST_CALLS = 8;

    private final String program;
    private final Set<String> face = new TreeSet<>();
    private final Set<String> classes = new TreeSet<>();
    private final Map<String, Set<String>> calls = new TreeMap<>();
    private final Map<String, Integer> fields = new TreeMap<>();
    private final Map<String, Integer> deepest = new TreeMap<>();
    private CompilationUnitTree unit;
    private Trees trees;
    private SourcePositions places;
    private int looked;
    private int wrong;

    private LanguageTest() throws Exception {
        program = Files.readString(MAIN, StandardCharsets.ISO_8859_1);
    }

    public static void main(String[] args) throws Exception {
        LanguageTest test = new LanguageTest();
        test.read();
        test.face();
        test.signs();
        test.new Scan().scan(test.unit, null);
        test.sizes();
        test.depths();
        System.out.println(test.looked + " places looked at, " + test.wrong + " not by the rules");
        if (test.wrong != 0) {
            System.exit(1);
        }
    }

    private void rule(int number, boolean isKept, String what) {
        looked++;
        if (!isKept) {
            wrong++;
            System.out.println("rule " + number + ": " + what);
        }
    }

    private void read() throws Exception {
        JavaCompiler compiler = ToolProvider.getSystemJavaCompiler();
        JavacTask task = (JavacTask) compiler.getTask(null, null, null, List.of("-proc:none"), null,
                compiler.getStandardFileManager(null, null, null).getJavaFileObjects(MAIN));
        for (CompilationUnitTree parsed : task.parse()) {
            unit = parsed;
        }
        task.analyze();
        trees = Trees.instance(task);
        places = trees.getSourcePositions();
    }

    private static String plain(String text) {
        return text.replaceAll("\\s+", " ");
    }

    /** Rule 1: the face, to the letter. */
    private void face() throws Exception {
        String document = Files.readString(DOCUMENT, StandardCharsets.ISO_8859_1);
        String told = document.substring(document.indexOf("public final class"));
        told = told.substring(0, told.indexOf("\n}"));
        Set<String> due = new TreeSet<>();
        Matcher line = Pattern.compile(" {4}(public [^;{]*);").matcher(told);
        while (line.find()) {
            due.add(line.group(1));
            String head = line.group(1).substring(0, line.group(1).indexOf('('));
            face.add(head.substring(head.lastIndexOf(' ') + 1));
        }
        Set<String> written = new TreeSet<>();
        Matcher found = Pattern.compile("^ {4}(public [^;{]*) \\{", Pattern.MULTILINE).matcher(program);
        while (found.find()) {
            written.add(plain(found.group(1)));
        }
        rule(1, due.size() == 60, "the document tells " + due.size() + " promises");
        rule(1, written.equals(due), "the face is other than that of the document: " + written);
        rule(1, unit.getPackageName() == null && unit.getTypeDecls().size() == 1, "a package, or more than one class");
    }

    private void signs() {
        for (int at = 0; at < program.length(); at++) {
            char sign = program.charAt(at);
            if (sign != '\n' && (sign < 32 || sign > 126)) {
                rule(4, false, "the sign " + (int) sign + " at " + at);
            }
        }
        for (ImportTree library : unit.getImports()) {
            rule(4, library.toString().trim().equals("import java.util.Arrays;"), library.toString());
        }
    }

    private void sizes() {
        rule(11, classes.size() <= MOST_CLASSES, classes.size() + " classes");
        fields.forEach((in, many) -> rule(11, many <= MOST_FIELDS, many + " fields in " + in));
    }

    /** Rules 8 and 11: which calls are a recursion, and how deep all others go. */
    private void depths() {
        Set<String> recursive = new TreeSet<>();
        for (String method : calls.keySet()) {
            if (reached(method).contains(method)) {
                recursive.add(method);
            }
        }
        rule(8, recursive.equals(Set.of("Walk.visit", "Editor.copyValue", "Editor.copyRow", "Editor.copyBook")),
                "these call themselves: " + recursive);
        for (String method : calls.keySet()) {
            int deep = deep(method, recursive);
            rule(11, deep <= MOST_CALLS || !method.startsWith("Pagedocument."), method + " goes " + deep + " deep");
        }
    }

    private Set<String> reached(String from) {
        Set<String> reached = new TreeSet<>();
        List<String> todo = new ArrayList<>(calls.get(from));
        while (!todo.isEmpty()) {
            String next = todo.remove(todo.size() - 1);
            if (reached.add(next)) {
                todo.addAll(calls.getOrDefault(next, Set.of()));
            }
        }
        return reached;
    }

    /** A call of one that is in a recursion to another one in it does not count. */
    private int deep(String method, Set<String> recursive) {
        Integer known = deepest.get(method);
        if (known != null) {
            return known;
        }
        int deep = 0;
        for (String next : calls.getOrDefault(method, Set.of())) {
            if (!(recursive.contains(method) && recursive.contains(next))) {
                deep = Math.max(deep, deep(next, recursive));
            }
        }
        deepest.put(method, deep + 1);
        return deep + 1;
    }

    /** Goes through all of the program. */
    private final class Scan extends TreePathScanner<Void, Void> {
        private String in = "";
        private String method = "";
        private boolean isMaking;

        private Element elementOf(Tree tree) {
            return trees.getElement(new TreePath(getCurrentPath(), tree));
        }

        private TypeMirror typeOf(Tree tree) {
            return trees.getTypeMirror(new TreePath(getCurrentPath(), tree));
        }

        private String where(Tree tree) {
            return "line " + unit.getLineMap().getLineNumber(places.getStartPosition(unit, tree)) + ": " + plain(tree.toString());
        }

        /** What stands at a field is done as its object is made. */
        private void calling(String called) {
            calls.computeIfAbsent(method.isEmpty() ? in + ".<init>" : method, name -> new TreeSet<>()).add(called);
        }

        private void never(int number, Tree tree) {
            rule(number, false, where(tree));
        }

        @Override
        public Void visitClass(ClassTree tree, Void none) {
            String outer = in;
            Set<Modifier> flags = tree.getModifiers().getFlags();
            in = tree.getSimpleName().toString();
            classes.add(in);
            if (outer.isEmpty()) {
                rule(1, in.equals("Pagedocument") && flags.equals(Set.of(Modifier.PUBLIC, Modifier.FINAL)), where(tree.getModifiers()));
            } else {
                rule(1, outer.equals("Pagedocument") && flags.contains(Modifier.STATIC) && flags.contains(Modifier.PRIVATE), in);
            }
            rule(2, !in.isEmpty() && tree.getKind() == Tree.Kind.CLASS, "what kind of class is " + in);
            rule(6, tree.getExtendsClause() == null && tree.getImplementsClause().isEmpty(), in + " extends another one");
            for (Tree member : tree.getMembers()) {
                rule(5, !(member instanceof BlockTree), "a block of its own in " + in);
            }
            super.visitClass(tree, none);
            in = outer;
            return null;
        }

        @Override
        public Void visitMethod(MethodTree tree, Void none) {
            String name = tree.getName().toString();
            Set<Modifier> flags = tree.getModifiers().getFlags();
            isMaking = name.equals("<init>");
            method = in + "." + name;
            calls.putIfAbsent(method, new TreeSet<>());
            long start = places.getStartPosition(unit, tree);
            if (start >= 0 && places.getEndPosition(unit, tree) >= 0) {
                long first = unit.getLineMap().getLineNumber(start);
                long last = unit.getLineMap().getLineNumber(places.getEndPosition(unit, tree));
                rule(11, last - first < MOST_LINES, method + " has " + (last - first + 1) + " lines");
            }
            boolean isFace = in.equals("Pagedocument") && (face.contains(name) || isMaking);
            rule(1, !in.equals("Pagedocument") || flags.contains(isFace ? Modifier.PUBLIC : Modifier.PRIVATE), method);
            rule(1, isFace || isMaking || !face.contains(name) && !flags.contains(Modifier.PUBLIC), method + " has a name of the face");
            rule(6, !Set.of("equals", "hashCode", "toString").contains(name), method);
            rule(11, tree.getParameters().size() <= MOST_PARAMETERS, method + " takes too many");
            super.visitMethod(tree, none);
            method = "";
            isMaking = false;
            return null;
        }

        @Override
        public Void visitVariable(VariableTree tree, Void none) {
            if (method.isEmpty()) {
                Set<Modifier> flags = tree.getModifiers().getFlags();
                boolean isStatic = flags.contains(Modifier.STATIC);
                rule(1, !in.equals("Pagedocument") || flags.contains(Modifier.PRIVATE), where(tree));
                rule(5, !isStatic || flags.contains(Modifier.FINAL) && tree.getInitializer() != null
                        && typeOf(tree).getKind().isPrimitive(), where(tree));
                fields.merge(in, isStatic ? 0 : 1, Integer::sum);
            }
            isLet(tree, typeOf(tree), 0);
            return super.visitVariable(tree, none);
        }

        private void isLet(Tree tree, TypeMirror type, int arrays) {
            if (type.getKind() == TypeKind.ARRAY) {
                isLet(tree, ((ArrayType) type).getComponentType(), arrays + 1);
                return;
            }
            boolean isNumber = type.getKind().isPrimitive() && type.getKind() != TypeKind.DOUBLE && type.getKind() != TypeKind.FLOAT;
            String name = type.toString();
            boolean isOwn = name.startsWith("Pagedocument.");
            boolean isText = arrays == 0 && (name.equals("java.lang.String") || name.equals("java.lang.StringBuilder"));
            rule(3, isNumber && arrays <= 2 || isOwn && arrays <= 1 || isText, where(tree));
        }

        @Override
        public Void visitMethodInvocation(MethodInvocationTree tree, Void none) {
            Element called = elementOf(tree.getMethodSelect());
            if (called instanceof ExecutableElement && called.getKind() == ElementKind.METHOD) {
                String owner = called.getEnclosingElement().toString();
                String name = owner.substring(owner.lastIndexOf('.') + 1) + "." + called.getSimpleName();
                if (owner.startsWith("Pagedocument")) {
                    calling(name);
                } else {
                    rule(4, LIBRARY.contains(name.replace("Abstract", "")), where(tree));
                }
            } else {
                rule(4, plain(tree.toString()).equals("super()"), where(tree));
            }
            return super.visitMethodInvocation(tree, none);
        }

        @Override
        public Void visitNewClass(NewClassTree tree, Void none) {
            boolean isThrown = getCurrentPath().getParentPath().getLeaf() instanceof ThrowTree;
            String made = typeOf(tree).toString();
            if (made.startsWith("Pagedocument.")) {
                calling(made.substring(made.lastIndexOf('.') + 1) + ".<init>");
            }
            rule(4, isThrown || made.startsWith("Pagedocument.") || made.equals("java.lang.StringBuilder"), where(tree));
            rule(2, tree.getClassBody() == null, where(tree));
            rule(12, isThrown || isMaking || method.isEmpty(), where(tree));
            return super.visitNewClass(tree, none);
        }

        @Override
        public Void visitNewArray(NewArrayTree tree, Void none) {
            rule(12, isMaking || method.isEmpty(), where(tree));
            return super.visitNewArray(tree, none);
        }

        @Override
        public Void visitThrow(ThrowTree tree, Void none) {
            String thrown = plain(tree.toString());
            Matcher written = Pattern.compile("throw new (\\w+)\\(\"[^\"\\\\]*\"\\);?").matcher(thrown);
            rule(6, written.matches() && THROWN.contains(written.group(1)) && !isMaking, where(tree));
            return super.visitThrow(tree, none);
        }

        @Override
        public Void visitLiteral(LiteralTree tree, Void none) {
            if (tree.getValue() instanceof String text) {
                rule(4, text.chars().allMatch(sign -> sign >= 1 && sign <= 127), where(tree));
            }
            return super.visitLiteral(tree, none);
        }

        private boolean isText(ExpressionTree tree) {
            TypeMirror type = typeOf(tree);
            return type != null && type.toString().equals("java.lang.String");
        }

        @Override
        public Void visitBinary(BinaryTree tree, Void none) {
            boolean isOfTexts = isText(tree.getLeftOperand()) || isText(tree.getRightOperand());
            rule(10, !isOfTexts, where(tree));
            if (tree.getKind() == Tree.Kind.DIVIDE || tree.getKind() == Tree.Kind.REMAINDER) {
                rule(7, tree.getRightOperand() instanceof LiteralTree by && !by.getValue().equals(0), where(tree));
            }
            return super.visitBinary(tree, none);
        }

        @Override
        public Void visitCompoundAssignment(CompoundAssignmentTree tree, Void none) {
            rule(10, !isText(tree.getVariable()), where(tree));
            if (tree.getKind() == Tree.Kind.DIVIDE_ASSIGNMENT || tree.getKind() == Tree.Kind.REMAINDER_ASSIGNMENT) {
                rule(7, tree.getExpression() instanceof LiteralTree by && !by.getValue().equals(0), where(tree));
            }
            return super.visitCompoundAssignment(tree, none);
        }

        @Override
        public Void visitTypeCast(TypeCastTree tree, Void none) {
            rule(6, typeOf(tree.getType()).getKind().isPrimitive(), where(tree));
            return super.visitTypeCast(tree, none);
        }

        @Override
        public Void visitForLoop(ForLoopTree tree, Void none) {
            rule(9, tree.getCondition() != null, where(tree));
            return super.visitForLoop(tree, none);
        }

        @Override
        public Void visitModifiers(ModifiersTree tree, Void none) {
            rule(6, !tree.getFlags().contains(Modifier.SYNCHRONIZED) && tree.getAnnotations().isEmpty(), where(tree));
            return super.visitModifiers(tree, none);
        }

        @Override
        public Void visitWhileLoop(WhileLoopTree tree, Void none) {
            never(9, tree);
            return super.visitWhileLoop(tree, none);
        }

        @Override
        public Void visitDoWhileLoop(DoWhileLoopTree tree, Void none) {
            never(9, tree);
            return super.visitDoWhileLoop(tree, none);
        }

        @Override
        public Void visitTry(TryTree tree, Void none) {
            never(6, tree);
            return super.visitTry(tree, none);
        }

        @Override
        public Void visitSynchronized(SynchronizedTree tree, Void none) {
            never(6, tree);
            return super.visitSynchronized(tree, none);
        }

        @Override
        public Void visitAssert(AssertTree tree, Void none) {
            never(6, tree);
            return super.visitAssert(tree, none);
        }

        @Override
        public Void visitLambdaExpression(LambdaExpressionTree tree, Void none) {
            never(2, tree);
            return super.visitLambdaExpression(tree, none);
        }

        @Override
        public Void visitMemberReference(MemberReferenceTree tree, Void none) {
            never(2, tree);
            return super.visitMemberReference(tree, none);
        }
    }
}
