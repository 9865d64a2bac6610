import com.sun.source.tree.AssertTree;
import com.sun.source.tree.BinaryTree;
import com.sun.source.tree.BlockTree;
import com.sun.source.tree.CatchTree;
import com.sun.source.tree.ClassTree;
import com.sun.source.tree.CompilationUnitTree;
import com.sun.source.tree.DoWhileLoopTree;
import com.sun.source.tree.EnhancedForLoopTree;
import com.sun.source.tree.ExpressionTree;
import com.sun.source.tree.ForLoopTree;
import com.sun.source.tree.ImportTree;
import com.sun.source.tree.LambdaExpressionTree;
import com.sun.source.tree.LiteralTree;
import com.sun.source.tree.MemberReferenceTree;
import com.sun.source.tree.MethodInvocationTree;
import com.sun.source.tree.MethodTree;
import com.sun.source.tree.NewArrayTree;
import com.sun.source.tree.NewClassTree;
import com.sun.source.tree.SynchronizedTree;
import com.sun.source.tree.ThrowTree;
import com.sun.source.tree.Tree;
import com.sun.source.tree.TryTree;
import com.sun.source.tree.TypeCastTree;
import com.sun.source.tree.VariableTree;
import com.sun.source.tree.WhileLoopTree;
import com.sun.source.util.JavacTask;
import com.sun.source.util.TreePath;
import com.sun.source.util.TreePathScanner;
import com.sun.source.util.Trees;
import java.io.IOException;
import java.lang.reflect.Array;
import java.lang.reflect.Field;
import java.lang.reflect.Modifier;
import java.nio.file.Files;
import java.nio.file.Path;
import java.util.ArrayList;
import java.util.Collections;
import java.util.HashMap;
import java.util.HashSet;
import java.util.IdentityHashMap;
import java.util.List;
import java.util.Map;
import java.util.Set;
import java.util.TreeSet;
import javax.lang.model.element.Element;
import javax.lang.model.element.TypeElement;
import javax.lang.model.type.TypeKind;
import javax.lang.model.type.TypeMirror;
import javax.tools.JavaCompiler;
import javax.tools.StandardJavaFileManager;
import javax.tools.ToolProvider;

/** The class keeps to the rules of ../shared/LANGUAGE.md, as far as its text and its fields can tell. */
public final class RulesTest {
    private static final Check CHECK = new Check();
    private static final Path SOURCE = Path.of("src/main/java/NameRing.java");
    private static final Path DOCUMENT = Path.of("../shared/DOC.md");
    private static final int DEEPEST_CALLS = 8;
    private static final int MOST_CLASSES = 12;
    private static final int MOST_FIELDS = 20;
    private static final int MOST_PARAMETERS = 7;
    private static final int MOST_LINES = 60;
    /** Of one object, so that some hundreds of them fit into the room. */
    private static final int MOST_OBJECTS = 200;
    private static final int MOST_ELEMENTS = 6000;

    private static final Set<String> THROWN = Set.of("IllegalStateException", "IllegalArgumentException",
            "IndexOutOfBoundsException", "ArithmeticException", "UnsupportedOperationException",
            "NoSuchElementException", "RuntimeException");
    private static final Set<String> IMPORTS = Set.of("java.util.NoSuchElementException", "java.util.ArrayList",
            "java.util.List", "java.util.Arrays", "java.util.Iterator");
    private static final Map<String, Set<String>> LIBRARY = Map.of(
            "java.lang.String", Set.of("length", "charAt", "isEmpty", "equals", "indexOf", "substring", "toCharArray"),
            "java.lang.System", Set.of("arraycopy"),
            "java.util.Arrays", Set.of("copyOf", "copyOfRange", "fill"),
            "java.lang.Integer", Set.of("bitCount", "compare", "max", "min"),
            "java.lang.Math", Set.of("abs", "max", "min", "floorDiv", "floorMod"));

    public static void main(String[] args) throws IOException, IllegalAccessException {
        checkFace();
        JavaCompiler compiler = ToolProvider.getSystemJavaCompiler();
        try (StandardJavaFileManager files = compiler.getStandardFileManager(null, null, null)) {
            JavacTask task = (JavacTask) compiler.getTask(null, files, null, null, null,
                    files.getJavaFileObjects(SOURCE));
            CompilationUnitTree unit = task.parse().iterator().next();
            task.analyze();
            Rules rules = new Rules(Trees.instance(task), unit);
            rules.scan(unit, null);
            rules.checkWhole();
        }
        checkRoom();
        CHECK.finish("RulesTest");
    }

    private static void holds(String what, boolean so) {
        CHECK.due(what, so, true);
    }

    /** Rule 1: what is public is what the document's face tells, line for line. */
    private static void checkFace() throws IOException {
        List<String> due = publicLines(DOCUMENT);
        List<String> got = publicLines(SOURCE);
        CHECK.due("lines of the face", due.size(), 1 + 1 + 1 + 47);
        holds("the face is the document's, not " + got, new HashSet<>(due).equals(new HashSet<>(got)));
        CHECK.due("lines that are public", got.size(), due.size());
    }

    private static List<String> publicLines(Path file) throws IOException {
        List<String> lines = new ArrayList<>();
        for (String line : Files.readAllLines(file)) {
            if (line.strip().startsWith("public ")) {
                lines.add(line.replaceAll("\\s*[;{]\\s*$", "").strip());
            }
        }
        return lines;
    }

    /** The room that one object takes, whatever is done with it: all rows are made in constructors. */
    private static void checkRoom() throws IllegalAccessException {
        Set<Object> objects = Collections.newSetFromMap(new IdentityHashMap<>());
        int elements = 0;
        List<Object> open = new ArrayList<>(List.of(new NameRing()));
        while (!open.isEmpty()) {
            Object object = open.remove(open.size() - 1);
            if (objects.add(object)) {
                elements += partsOf(object, open);
            }
        }
        holds("objects: " + objects.size(), objects.size() <= MOST_OBJECTS);
        holds("fields and elements: " + elements, elements <= MOST_ELEMENTS);
    }

    /** How many fields or elements it has; those that are objects come to the open ones. */
    private static int partsOf(Object object, List<Object> open) throws IllegalAccessException {
        int parts = 0;
        if (object.getClass().isArray()) {
            boolean simple = object.getClass().getComponentType().isPrimitive();
            parts = Array.getLength(object);
            for (int i = 0; i < parts && !simple; i++) {
                open.add(Array.get(object, i));
            }
            return parts;
        }
        for (Field field : object.getClass().getDeclaredFields()) {
            if (!Modifier.isStatic(field.getModifiers())) {
                field.setAccessible(true);
                parts++;
                if (!field.getType().isPrimitive()) {
                    open.add(field.get(object));
                }
            }
        }
        return parts;
    }

    /** Goes through the text once; what is wrong is told with its line. */
    private static final class Rules extends TreePathScanner<Void, Void> {
        private final Trees trees;
        private final CompilationUnitTree unit;
        private final Map<Element, Set<Element>> calls = new HashMap<>();
        private final Set<String> faceNames = new TreeSet<>();
        private final Set<String> otherNames = new TreeSet<>();
        private Element method;
        private MethodTree methodTree;
        private int classes;

        Rules(Trees trees, CompilationUnitTree unit) {
            this.trees = trees;
            this.unit = unit;
        }

        private long lineOf(Tree tree) {
            return unit.getLineMap().getLineNumber(trees.getSourcePositions().getStartPosition(unit, tree));
        }

        private long lastLineOf(Tree tree) {
            return unit.getLineMap().getLineNumber(trees.getSourcePositions().getEndPosition(unit, tree));
        }

        private void never(String what, Tree tree) {
            holds("line " + lineOf(tree) + ": " + what, false);
        }

        private boolean isOwn(Element type) {
            return type.toString().equals("NameRing") || type.toString().startsWith("NameRing.");
        }

        private boolean inConstructor() {
            return methodTree != null && methodTree.getName().contentEquals("<init>");
        }

        @Override
        public Void visitImport(ImportTree tree, Void none) {
            holds("import of " + tree.getQualifiedIdentifier(), IMPORTS.contains(tree.getQualifiedIdentifier().toString()));
            return super.visitImport(tree, none);
        }

        @Override
        public Void visitClass(ClassTree tree, Void none) {
            classes++;
            boolean outer = tree.getSimpleName().contentEquals("NameRing");
            Set<javax.lang.model.element.Modifier> modifiers = tree.getModifiers().getFlags();
            if (methodTree != null) {
                never("a class within a method", tree);
            }
            if (!outer) {
                holds(tree.getSimpleName() + " is static", modifiers.contains(javax.lang.model.element.Modifier.STATIC));
            }
            int fields = 0;
            for (Tree member : tree.getMembers()) {
                if (member instanceof BlockTree) {
                    never("an initialiser", member);
                }
                if (member instanceof VariableTree field) {
                    fields += checkField(field, outer) ? 0 : 1;
                }
            }
            holds(tree.getSimpleName() + " has " + fields + " fields", fields <= MOST_FIELDS);
            return super.visitClass(tree, none);
        }

        /** Whether it is a constant. */
        private boolean checkField(VariableTree field, boolean outer) {
            Set<javax.lang.model.element.Modifier> modifiers = field.getModifiers().getFlags();
            boolean isStatic = modifiers.contains(javax.lang.model.element.Modifier.STATIC);
            if (isStatic) {
                String type = field.getType().toString();
                holds(field.getName() + " is final", modifiers.contains(javax.lang.model.element.Modifier.FINAL));
                holds(field.getName() + " is a constant", Set.of("int", "long", "boolean", "char", "String").contains(type));
            } else if (outer) {
                holds(field.getName() + " is private", modifiers.contains(javax.lang.model.element.Modifier.PRIVATE));
            }
            return isStatic;
        }

        @Override
        public Void visitMethod(MethodTree tree, Void none) {
            Element element = trees.getElement(getCurrentPath());
            boolean ofFace = tree.getModifiers().getFlags().contains(javax.lang.model.element.Modifier.PUBLIC);
            (ofFace ? faceNames : otherNames).add(tree.getName().toString());
            holds(tree.getName() + " has few parameters", tree.getParameters().size() <= MOST_PARAMETERS);
            holds(tree.getName() + " is short", lastLineOf(tree) - lineOf(tree) < MOST_LINES);
            method = element;
            methodTree = tree;
            calls.put(element, new HashSet<>());
            super.visitMethod(tree, none);
            method = null;
            methodTree = null;
            return null;
        }

        @Override
        public Void visitMethodInvocation(MethodInvocationTree tree, Void none) {
            Element called = trees.getElement(new TreePath(getCurrentPath(), tree.getMethodSelect()));
            Element type = called.getEnclosingElement();
            if (isOwn(type)) {
                noteCall(called);
            } else if (!called.getSimpleName().contentEquals("<init>")) {
                String owner = ((TypeElement) type).getQualifiedName().toString();
                boolean known = LIBRARY.getOrDefault(owner, Set.of()).contains(called.getSimpleName().toString());
                holds("line " + lineOf(tree) + ": " + owner + "." + called.getSimpleName(), known);
            }
            return super.visitMethodInvocation(tree, none);
        }

        private void noteCall(Element called) {
            if (method != null) {
                calls.get(method).add(called);
            }
        }

        @Override
        public Void visitNewClass(NewClassTree tree, Void none) {
            boolean thrown = getCurrentPath().getParentPath().getLeaf() instanceof ThrowTree;
            holds("line " + lineOf(tree) + ": an object is made in a constructor", thrown || inConstructor());
            Element made = trees.getElement(getCurrentPath());
            if (made != null && isOwn(made.getEnclosingElement())) {
                noteCall(made);
            }
            return super.visitNewClass(tree, none);
        }

        @Override
        public Void visitNewArray(NewArrayTree tree, Void none) {
            holds("line " + lineOf(tree) + ": a row is made in a constructor", inConstructor());
            return super.visitNewArray(tree, none);
        }

        @Override
        public Void visitThrow(ThrowTree tree, Void none) {
            boolean right = tree.getExpression() instanceof NewClassTree made
                    && THROWN.contains(made.getIdentifier().toString()) && isWritten(made.getArguments());
            holds("line " + lineOf(tree) + ": what is thrown", right && !inConstructor());
            return super.visitThrow(tree, none);
        }

        private static boolean isWritten(List<? extends ExpressionTree> arguments) {
            return arguments.isEmpty() || arguments.size() == 1 && arguments.get(0) instanceof LiteralTree;
        }

        @Override
        public Void visitTry(TryTree tree, Void none) {
            if (tree.getFinallyBlock() != null || !tree.getResources().isEmpty()) {
                never("finally, or resources", tree);
            }
            return super.visitTry(tree, none);
        }

        /** This class throws but in route, so it has nothing to catch. */
        @Override
        public Void visitCatch(CatchTree tree, Void none) {
            never("a catch", tree);
            return super.visitCatch(tree, none);
        }

        @Override
        public Void visitBinary(BinaryTree tree, Void none) {
            boolean joins = tree.getKind() == Tree.Kind.PLUS && (isText(tree.getLeftOperand()) || isText(tree.getRightOperand()));
            boolean compares = (tree.getKind() == Tree.Kind.EQUAL_TO || tree.getKind() == Tree.Kind.NOT_EQUAL_TO)
                    && isText(tree.getLeftOperand()) && isText(tree.getRightOperand());
            if (joins || compares) {
                never("texts joined by +, or compared by ==", tree);
            }
            return super.visitBinary(tree, none);
        }

        private boolean isText(Tree tree) {
            TypeMirror type = trees.getTypeMirror(new TreePath(getCurrentPath(), tree));
            return type != null && type.toString().equals("java.lang.String");
        }

        @Override
        public Void visitTypeCast(TypeCastTree tree, Void none) {
            TypeMirror type = trees.getTypeMirror(new TreePath(getCurrentPath(), tree.getType()));
            holds("line " + lineOf(tree) + ": only numbers are cast", type.getKind().isPrimitive() && type.getKind() != TypeKind.BOOLEAN);
            return super.visitTypeCast(tree, none);
        }

        @Override
        public Void visitForLoop(ForLoopTree tree, Void none) {
            holds("line " + lineOf(tree) + ": a loop has a bound", isBound(tree.getCondition()));
            return super.visitForLoop(tree, none);
        }

        @Override
        public Void visitWhileLoop(WhileLoopTree tree, Void none) {
            holds("line " + lineOf(tree) + ": a loop has a bound", isBound(tree.getCondition()));
            return super.visitWhileLoop(tree, none);
        }

        @Override
        public Void visitDoWhileLoop(DoWhileLoopTree tree, Void none) {
            never("a loop of which the bound is not looked at ahead", tree);
            return super.visitDoWhileLoop(tree, none);
        }

        @Override
        public Void visitEnhancedForLoop(EnhancedForLoopTree tree, Void none) {
            TypeMirror type = trees.getTypeMirror(new TreePath(getCurrentPath(), tree.getExpression()));
            holds("line " + lineOf(tree) + ": a loop over an array", type.getKind() == TypeKind.ARRAY);
            return super.visitEnhancedForLoop(tree, none);
        }

        /** A counter is held against something that is less, or more. */
        private static boolean isBound(Tree condition) {
            return condition != null && condition.toString().matches("(?s).*[<>].*");
        }

        @Override
        public Void visitLambdaExpression(LambdaExpressionTree tree, Void none) {
            never("a lambda", tree);
            return super.visitLambdaExpression(tree, none);
        }

        @Override
        public Void visitMemberReference(MemberReferenceTree tree, Void none) {
            never("a method reference", tree);
            return super.visitMemberReference(tree, none);
        }

        @Override
        public Void visitSynchronized(SynchronizedTree tree, Void none) {
            never("synchronized", tree);
            return super.visitSynchronized(tree, none);
        }

        @Override
        public Void visitAssert(AssertTree tree, Void none) {
            never("assert", tree);
            return super.visitAssert(tree, none);
        }

        /** What only the whole file tells. */
        void checkWhole() {
            holds(classes + " classes", classes <= MOST_CLASSES);
            otherNames.retainAll(faceNames);
            otherNames.remove("<init>");
            holds("names of the face that others bear, too: " + otherNames, otherNames.isEmpty());
            for (Element from : calls.keySet()) {
                List<Element> longest = longestFrom(from, new HashSet<>());
                holds("calls go deeper than " + DEEPEST_CALLS + ": " + longest, longest.size() <= DEEPEST_CALLS);
            }
        }

        /** The longest chain of calls in which none stands twice. */
        private List<Element> longestFrom(Element from, Set<Element> above) {
            List<Element> longest = List.of();
            above.add(from);
            for (Element called : calls.getOrDefault(from, Set.of())) {
                List<Element> chain = above.contains(called) ? List.of() : longestFrom(called, above);
                longest = chain.size() > longest.size() ? chain : longest;
            }
            above.remove(from);
            List<Element> chain = new ArrayList<>(List.of(from));
            chain.addAll(longest);
            return chain;
        }
    }
}
