import com.sun.source.tree.ArrayAccessTree;
import com.sun.source.tree.BinaryTree;
import com.sun.source.tree.ClassTree;
import com.sun.source.tree.CompilationUnitTree;
import com.sun.source.tree.ForLoopTree;
import com.sun.source.tree.LiteralTree;
import com.sun.source.tree.MethodInvocationTree;
import com.sun.source.tree.MethodTree;
import com.sun.source.tree.NewArrayTree;
import com.sun.source.tree.NewClassTree;
import com.sun.source.tree.Tree;
import com.sun.source.tree.VariableTree;
import com.sun.source.util.JavacTask;
import com.sun.source.util.SourcePositions;
import com.sun.source.util.TreePath;
import com.sun.source.util.TreePathScanner;
import com.sun.source.util.Trees;
import java.io.IOException;
import java.nio.file.Files;
import java.nio.file.Path;
import java.util.ArrayDeque;
import java.util.Deque;
import java.util.EnumSet;
import java.util.LinkedHashMap;
import java.util.LinkedHashSet;
import java.util.List;
import java.util.Map;
import java.util.Set;
import java.util.TreeSet;
import javax.lang.model.element.Element;
import javax.lang.model.element.ElementKind;
import javax.lang.model.element.Modifier;
import javax.lang.model.element.VariableElement;
import javax.lang.model.type.ArrayType;
import javax.lang.model.type.TypeKind;
import javax.lang.model.type.TypeMirror;
import javax.tools.JavaCompiler;
import javax.tools.StandardJavaFileManager;
import javax.tools.ToolProvider;

/** The rules of ../shared/LANGUAGE.md that the source can be asked for, by the tree that javac makes of it. */
public final class RulesTest extends TreePathScanner<Void, Void> {
    private static final Path SOURCE = Path.of("src/main/java/StoryCoroner.java");
    private static final String FACE = "StoryCoroner";

    /** What rules 2, 4 and 6 leave out, and what the class does without: exceptions, texts, while. */
    private static final Set<Tree.Kind> LEFT_OUT = EnumSet.of(Tree.Kind.LAMBDA_EXPRESSION, Tree.Kind.MEMBER_REFERENCE,
        Tree.Kind.TRY, Tree.Kind.THROW, Tree.Kind.SYNCHRONIZED, Tree.Kind.ASSERT, Tree.Kind.IMPORT, Tree.Kind.PACKAGE,
        Tree.Kind.WHILE_LOOP, Tree.Kind.DO_WHILE_LOOP, Tree.Kind.STRING_LITERAL, Tree.Kind.INSTANCE_OF);

    /** What of rule 4 the class uses. */
    private static final Set<String> LIBRARY = Set.of("Math.max", "Math.min", "Integer.bitCount", "System.arraycopy");

    /** Where arrays are indexed: in loops up to their length, or behind a test of the index. */
    private static final String INDEXING = "History() History.isInRing History.keep History.takeBack Row() Row.get Row.set";

    private final Trees trees;
    private final CompilationUnitTree unit;
    private final Map<Element, Set<Element>> calls = new LinkedHashMap<>();
    private final Set<Element> faces = new LinkedHashSet<>();
    private final Set<String> indexing = new TreeSet<>();
    private final Set<String> leftOut = new TreeSet<>();
    private int classes;

    private RulesTest(Trees trees, CompilationUnitTree unit) {
        this.trees = trees;
        this.unit = unit;
    }

    public static void main(String[] args) throws IOException {
        JavaCompiler javac = ToolProvider.getSystemJavaCompiler();
        try (StandardJavaFileManager files = javac.getStandardFileManager(null, null, null)) {
            List<String> options = List.of("--release", "17", "-proc:none");
            JavacTask task = (JavacTask) javac.getTask(null, files, null, options, null, files.getJavaFileObjects(SOURCE));
            CompilationUnitTree unit = task.parse().iterator().next();
            task.analyze();
            RulesTest test = new RulesTest(Trees.instance(task), unit);
            test.scan(unit, null);
            test.sums();
        }
        signs();
        Check.close("RulesTest");
    }

    private static void signs() throws IOException {
        Check.term("rule 4", "signs 1 to 127");
        boolean isPlain = Files.readString(SOURCE).chars().allMatch(sign -> sign >= 1 && sign <= 127);
        Check.due("every sign of the file is plain", isPlain ? 1 : 0, 1);
    }

    private void sums() {
        Check.term("rules 2, 4 and 6", "what they leave out, and what the class does without: exceptions, texts, while");
        Check.due("of that there is", String.join(", ", leftOut), "");
        Check.term("rule 7", "an index is looked at before it is used");
        Check.due("where arrays are indexed", String.join(" ", indexing), INDEXING);
        Check.term("rule 11", "the file has at most some twelve classes");
        Check.due(classes + " classes", classes <= 12 ? 1 : 0, 1);
        Check.term("rules 8 and 11", "no recursion, and calls at most eight deep");
        Check.due("the face has 36 methods and a constructor", faces.size(), 37);
        for (Element face : faces) {
            int depth = depth(face, new ArrayDeque<>());
            Check.due(face + " goes " + depth + " deep", depth <= 8 ? 1 : 0, 1);
        }
    }

    private int depth(Element called, Deque<Element> open) {
        if (open.contains(called)) {
            Check.due(called + " is called while it is open", 1, 0);
            return 0;
        }
        open.push(called);
        int deepest = 0;
        for (Element next : calls.getOrDefault(called, Set.of())) {
            deepest = Math.max(deepest, depth(next, open));
        }
        open.pop();
        return deepest + 1;
    }

    @Override
    public Void scan(Tree tree, Void nothing) {
        if (tree != null && LEFT_OUT.contains(tree.getKind())) {
            leftOut.add(at(tree) + " " + tree.getKind());
        }
        return super.scan(tree, nothing);
    }

    @Override
    public Void visitClass(ClassTree tree, Void nothing) {
        Check.term("rule 11", "a class has some twenty fields beside its constants");
        classes++;
        int fields = 0;
        for (Tree member : tree.getMembers()) {
            if (member instanceof VariableTree field && !field.getModifiers().getFlags().contains(Modifier.STATIC)) {
                fields++;
            }
        }
        Check.due(tree.getSimpleName() + " has " + fields + " fields", fields <= 20 ? 1 : 0, 1);
        return super.visitClass(tree, nothing);
    }

    @Override
    public Void visitMethod(MethodTree tree, Void nothing) {
        Element method = trees.getElement(getCurrentPath());
        boolean isOfTheFace = method.getEnclosingElement().getSimpleName().contentEquals(FACE);
        if (isOfTheFace && method.getModifiers().contains(Modifier.PUBLIC)) {
            faces.add(method);
        }
        Check.term("rule 11", "a method takes at most seven parameters, and has at most some sixty lines");
        int parameters = tree.getParameters().size();
        Check.due(at(tree) + " takes " + parameters, parameters <= 7 ? 1 : 0, 1);
        SourcePositions places = trees.getSourcePositions();
        long first = unit.getLineMap().getLineNumber(places.getStartPosition(unit, tree));
        long last = unit.getLineMap().getLineNumber(places.getEndPosition(unit, tree));
        Check.due(at(tree) + " has " + (last - first + 1) + " lines", last - first < 60 ? 1 : 0, 1);
        return super.visitMethod(tree, nothing);
    }

    @Override
    public Void visitVariable(VariableTree tree, Void nothing) {
        Check.term("rule 3", "int, boolean, float, arrays of int and of own classes, own classes");
        TypeMirror type = trees.getTypeMirror(getCurrentPath());
        Check.due(at(tree) + " " + tree.getName() + " is " + type, isAllowed(type) ? 1 : 0, 1);
        if (tree.getModifiers().getFlags().contains(Modifier.STATIC)) {
            Check.term("rule 5", "static fields are final: constants of int");
            VariableElement field = (VariableElement) trees.getElement(getCurrentPath());
            boolean isConstant = field.getConstantValue() instanceof Integer;
            Check.due(tree.getName() + " is a constant of int", isConstant ? 1 : 0, 1);
        }
        return super.visitVariable(tree, nothing);
    }

    private static boolean isAllowed(TypeMirror type) {
        if (type.getKind() == TypeKind.ARRAY) {
            TypeMirror held = ((ArrayType) type).getComponentType();
            return held.getKind() == TypeKind.INT || isOwn(held);
        }
        return Set.of(TypeKind.INT, TypeKind.BOOLEAN, TypeKind.FLOAT).contains(type.getKind()) || isOwn(type);
    }

    private static boolean isOwn(TypeMirror type) {
        return type.getKind() == TypeKind.DECLARED && type.toString().startsWith(FACE);
    }

    @Override
    public Void visitMethodInvocation(MethodInvocationTree tree, Void nothing) {
        Element called = trees.getElement(getCurrentPath());
        Element owner = called.getEnclosingElement();
        if (isOwn(owner.asType())) {
            called(called);
        } else if (called.getKind() != ElementKind.CONSTRUCTOR) {
            Check.term("rule 4", "only what stands there");
            String name = owner.getSimpleName() + "." + called.getSimpleName();
            Check.due(at(tree) + " calls " + name, LIBRARY.contains(name) ? 1 : 0, 1);
        }
        return super.visitMethodInvocation(tree, nothing);
    }

    @Override
    public Void visitNewClass(NewClassTree tree, Void nothing) {
        Element constructor = trees.getElement(getCurrentPath());
        called(constructor);
        called(constructor.getEnclosingElement());
        onlyInConstructors(tree);
        return super.visitNewClass(tree, nothing);
    }

    @Override
    public Void visitNewArray(NewArrayTree tree, Void nothing) {
        onlyInConstructors(tree);
        return super.visitNewArray(tree, nothing);
    }

    private void onlyInConstructors(Tree tree) {
        Check.term("rule 12", "what a run makes is kept small: no call makes anything");
        Element place = place();
        boolean isMadeOnce = place.getKind() == ElementKind.CONSTRUCTOR || place.getKind().isClass();
        Check.due(at(tree) + " makes " + tree, isMadeOnce ? 1 : 0, 1);
    }

    @Override
    public Void visitForLoop(ForLoopTree tree, Void nothing) {
        Check.term("rule 9", "every loop has an end that can be seen: a counter against a bound");
        boolean isCounted = tree.getCondition() != null && tree.getUpdate().size() == 1;
        Check.due(at(tree) + " counts in " + tree.getCondition(), isCounted ? 1 : 0, 1);
        return super.visitForLoop(tree, nothing);
    }

    /** The one divisor that is no number written out is that of share, which tests it. */
    @Override
    public Void visitBinary(BinaryTree tree, Void nothing) {
        if (tree.getKind() == Tree.Kind.DIVIDE || tree.getKind() == Tree.Kind.REMAINDER) {
            Check.term("rule 7", "a divisor is looked at before it divides");
            boolean isWritten = tree.getRightOperand() instanceof LiteralTree number && !number.getValue().equals(0);
            Check.due(at(tree) + " divides by " + tree.getRightOperand(),
                isWritten || at(tree).equals("StoryCoroner.share") ? 1 : 0, 1);
        }
        return super.visitBinary(tree, nothing);
    }

    @Override
    public Void visitArrayAccess(ArrayAccessTree tree, Void nothing) {
        indexing.add(at(tree));
        return super.visitArrayAccess(tree, nothing);
    }

    private void called(Element called) {
        calls.computeIfAbsent(place(), from -> new LinkedHashSet<>()).add(called);
    }

    /** The method or constructor round what is looked at, or the class, if it stands in no method of it. */
    private Element place() {
        for (TreePath path = getCurrentPath(); path != null; path = path.getParentPath()) {
            if (path.getLeaf() instanceof MethodTree || path.getLeaf() instanceof ClassTree) {
                return trees.getElement(path);
            }
        }
        throw new IllegalStateException("outside of all classes");
    }

    private String at(Tree tree) {
        if (getCurrentPath() == null || tree instanceof ClassTree || tree instanceof CompilationUnitTree) {
            return "the file";
        }
        Element place = place();
        if (place.getKind().isClass()) {
            return place.getSimpleName().toString();
        }
        String owner = place.getEnclosingElement().getSimpleName().toString();
        return place.getKind() == ElementKind.CONSTRUCTOR ? owner + "()" : owner + "." + place.getSimpleName();
    }
}
