import com.sun.source.tree.AnnotationTree;
import com.sun.source.tree.AssertTree;
import com.sun.source.tree.BinaryTree;
import com.sun.source.tree.CaseTree;
import com.sun.source.tree.ClassTree;
import com.sun.source.tree.CompilationUnitTree;
import com.sun.source.tree.CompoundAssignmentTree;
import com.sun.source.tree.DoWhileLoopTree;
import com.sun.source.tree.EnhancedForLoopTree;
import com.sun.source.tree.ExpressionTree;
import com.sun.source.tree.ForLoopTree;
import com.sun.source.tree.ImportTree;
import com.sun.source.tree.LambdaExpressionTree;
import com.sun.source.tree.LineMap;
import com.sun.source.tree.LiteralTree;
import com.sun.source.tree.MemberReferenceTree;
import com.sun.source.tree.MethodInvocationTree;
import com.sun.source.tree.MethodTree;
import com.sun.source.tree.NewClassTree;
import com.sun.source.tree.SynchronizedTree;
import com.sun.source.tree.ThrowTree;
import com.sun.source.tree.Tree;
import com.sun.source.tree.TryTree;
import com.sun.source.tree.VariableTree;
import com.sun.source.tree.WhileLoopTree;
import com.sun.source.util.JavacTask;
import com.sun.source.util.SourcePositions;
import com.sun.source.util.TreePath;
import com.sun.source.util.TreePathScanner;
import com.sun.source.util.Trees;
import java.io.File;
import java.nio.file.Files;
import java.nio.file.Path;
import java.util.HashSet;
import java.util.LinkedHashMap;
import java.util.LinkedHashSet;
import java.util.List;
import java.util.Map;
import java.util.Set;
import java.util.TreeSet;
import javax.lang.model.element.Element;
import javax.lang.model.element.ElementKind;
import javax.lang.model.element.ExecutableElement;
import javax.lang.model.element.Modifier;
import javax.lang.model.element.TypeElement;
import javax.lang.model.type.TypeKind;
import javax.lang.model.type.TypeMirror;
import javax.tools.JavaCompiler;
import javax.tools.StandardJavaFileManager;
import javax.tools.ToolProvider;

/**
 * What LANGUAGE.md rules out is not in the source, and the face is the document's; the compiler itself tells what
 * stands there. Arguments: the source. Each fault is told with the rule's number.
 */
public final class LanguageTest extends TreePathScanner<Void, Void> {
    private static final Set<String> FACE = Set.of(
        "int feed(int,int,int,int,int)", "int back(int)", "int read()", "int place()", "int word(int,int)", "int run(int,int)",
        "int stage(int,int,int)", "int jams(int)", "int way(int,int)", "int order(int)", "int isOn(int)", "boolean turn(int)",
        "boolean swap(int,int)", "int grind(int)", "boolean sell(int)", "int centuries(int)", "boolean undo()", "int stock(int,int)",
        "int made(int,int)", "int pair(int,boolean)", "int orders(int)", "int orderAt(int,int)", "int swaps(int)",
        "int sets(int,boolean,int)", "int list(int)", "int next(int,int)", "int parted(int)", "int derived(int,int,int)",
        "int apart(int,int)", "int rhymes(int,int)", "int bestTurn(int)", "int mostUsed(int,int)", "int lacks(int,int)",
        "int future(int,int,int)", "int sales(int)", "int forged()", "int lives(int)", "int left(int)", "boolean hold(int)",
        "boolean restore(int)", "int count(int)");

    /** Rule 4, as far as it is needed: what else the rule allows is added here when the class uses it. */
    private static final Set<String> LIBRARY = Set.of(
        "String.length()", "String.charAt(int)", "String.isEmpty()", "String.indexOf(int)",
        "Math.max(int,int)", "Math.min(int,int)", "Integer.bitCount(int)", "System.arraycopy(Object,int,Object,int,int)",
        "Arrays.fill(int[],int)", "Arrays.fill(long[],long)", "Arrays.copyOf(int[],int)", "Arrays.copyOf(long[],int)");

    private static final Set<String> NUMBERS = Set.of("int", "long", "short", "byte", "char", "boolean", "double", "float");
    private static final int MOST_CLASSES = 12;
    private static final int MOST_FIELDS = 20;
    private static final int MOST_PARAMETERS = 7;
    private static final int MOST_LINES = 60;
    private static final int DEEPEST = 8;

    private static int wrong = 0;

    private final Trees trees;
    private final SourcePositions places;
    private final CompilationUnitTree unit;
    private final LineMap lines;
    private final Map<String, Set<String>> calls = new LinkedHashMap<>();
    private final Map<String, ExecutableElement> methods = new LinkedHashMap<>();
    private final Set<String> face = new TreeSet<>();
    private final Set<String> otherNames = new HashSet<>();
    private int classes = 0;
    private String method = "";

    private LanguageTest(Trees trees, CompilationUnitTree unit) {
        this.trees = trees;
        this.unit = unit;
        places = trees.getSourcePositions();
        lines = unit.getLineMap();
    }

    public static void main(String[] args) throws Exception {
        if (args.length == 0) {
            must(false, "the source is told");
        } else {
            signs(Files.readString(Path.of(args[0])));
            look(new File(args[0]));
        }
        System.out.println(wrong == 0 ? "the rules are kept" : wrong + " rules are not kept");
        if (wrong != 0) {
            System.exit(1);
        }
    }

    private static void must(boolean holds, String what) {
        if (!holds) {
            wrong++;
            System.out.println("not kept: " + what);
        }
    }

    private void must(boolean holds, Tree tree, String what) {
        must(holds, what + " (line " + lines.getLineNumber(places.getStartPosition(unit, tree)) + ")");
    }

    private static void signs(String source) {
        for (int i = 0; i < source.length(); i++) {
            must(source.charAt(i) >= 1 && source.charAt(i) < 128, "4: signs 1 to 127 alone");
        }
    }

    private static void look(File source) throws Exception {
        JavaCompiler compiler = ToolProvider.getSystemJavaCompiler();
        try (StandardJavaFileManager files = compiler.getStandardFileManager(null, null, null)) {
            JavacTask task = (JavacTask) compiler.getTask(null, files, null, List.of("-proc:none"), null,
                files.getJavaFileObjects(source));
            for (CompilationUnitTree unit : task.parse()) {
                task.analyze();
                must(unit.getPackageName() == null, "no package");
                LanguageTest test = new LanguageTest(Trees.instance(task), unit);
                test.scan(unit, null);
                test.sum();
            }
        }
    }

    /** What is seen only when all of the source has been gone through. */
    private void sum() {
        must(classes <= MOST_CLASSES, "11: some twelve classes, not " + classes);
        must(face.equals(FACE), "1: the face of the document, not " + face);
        for (String name : otherNames) {
            must(FACE.stream().noneMatch(of -> of.contains(" " + name + "(")), "1: " + name + " is a name of the face");
        }
        for (String from : calls.keySet()) {
            must(deepest(from, new LinkedHashSet<>()) <= DEEPEST, "11: calls go at most eight deep, not those of " + from);
            if (reaches(from, from, new HashSet<>())) {
                must(methods.get(from).getModifiers().contains(Modifier.PRIVATE), "8: " + from + " calls itself and is private");
                must(carriesDepth(methods.get(from)), "8: " + from + " calls itself and carries its depth");
            }
        }
    }

    private static boolean carriesDepth(ExecutableElement method) {
        return method.getParameters().stream().anyMatch(p -> Set.of("depth", "step").contains(p.getSimpleName().toString()));
    }

    private boolean reaches(String from, String goal, Set<String> seen) {
        for (String next : calls.getOrDefault(from, Set.of())) {
            if (next.equals(goal) || seen.add(next) && reaches(next, goal, seen)) {
                return true;
            }
        }
        return false;
    }

    /** How many calls stand open at most, none of them twice: the rule is about calls that are no recursion. */
    private int deepest(String from, Set<String> open) {
        if (!open.add(from)) {
            return 0;
        }
        int most = 0;
        for (String next : calls.getOrDefault(from, Set.of())) {
            most = Math.max(most, deepest(next, open));
        }
        open.remove(from);
        return most + 1;
    }

    // ---- the parts of the source

    private Element here() {
        return trees.getElement(getCurrentPath());
    }

    private static String bare(TypeMirror type) {
        return type.toString().replaceAll("^.*[.]", "");
    }

    private static String told(ExecutableElement method) {
        StringBuilder s = new StringBuilder(method.getSimpleName()).append('(');
        for (int i = 0; i < method.getParameters().size(); i++) {
            s.append(i == 0 ? "" : ",").append(bare(method.getParameters().get(i).asType()));
        }
        return s.append(')').toString();
    }

    private static String inClass(ExecutableElement method) {
        return method.getEnclosingElement().getSimpleName() + "." + told(method);
    }

    private static boolean isOwn(Element type) {
        return type.toString().startsWith("WordMill");
    }

    @Override
    public Void visitImport(ImportTree tree, Void nothing) {
        must(Set.of("java.util.Arrays", "java.util.ArrayList", "java.util.List").contains(tree.getQualifiedIdentifier().toString()),
            tree, "4: import " + tree.getQualifiedIdentifier());
        return super.visitImport(tree, nothing);
    }

    @Override
    public Void visitClass(ClassTree tree, Void nothing) {
        classes++;
        TypeElement type = (TypeElement) here();
        boolean outermost = type.getEnclosingElement().getKind() == ElementKind.PACKAGE;
        must(type.getNestingKind().isNested() != outermost, tree, "2: no local or anonymous class");
        Set<Modifier> flags = type.getModifiers();
        if (outermost) {
            must(flags.contains(Modifier.PUBLIC) && flags.contains(Modifier.FINAL), tree, "1: public and final");
        } else {
            must(flags.contains(Modifier.STATIC) && !flags.contains(Modifier.PUBLIC) && !flags.contains(Modifier.PROTECTED),
                tree, "1, 2: classes inside are static, private or package-visible");
        }
        int fields = 0;
        for (Tree member : tree.getMembers()) {
            must(member.getKind() != Tree.Kind.BLOCK, member, "5: no initialiser block");
            if (member instanceof VariableTree field) {
                fields += field.getModifiers().getFlags().contains(Modifier.STATIC) ? 0 : 1;
                field(field, outermost);
            }
        }
        must(fields <= MOST_FIELDS, tree, "11: some twenty fields in a class, not " + fields);
        return super.visitClass(tree, nothing);
    }

    private void field(VariableTree field, boolean outermost) {
        Set<Modifier> flags = field.getModifiers().getFlags();
        if (flags.contains(Modifier.STATIC)) {
            must(flags.contains(Modifier.FINAL), field, "5: static fields are final");
            must(field.getInitializer() instanceof LiteralTree || Set.of("int", "long", "boolean", "char", "String", "int[]", "long[]",
                "char[]", "byte[]").contains(field.getType().toString()), field, "5: static fields are constants");
        }
        if (outermost) {
            must(flags.contains(Modifier.PRIVATE) || flags.contains(Modifier.PUBLIC) && field.getName().contentEquals("NONE"),
                field, "1: fields are private, but for NONE");
        }
    }

    @Override
    public Void visitVariable(VariableTree tree, Void nothing) {
        TypeMirror type = here().asType();
        String name = bare(type);
        String single = name.replace("[]", "");
        boolean number = NUMBERS.contains(single);
        must(number || Set.of("String", "StringBuilder", "Integer").contains(single) || type.toString().startsWith("WordMill"),
            tree, "3: no " + name);
        must(!name.contains("[][]") || number && !name.contains("[][][]"), tree, "3: arrays of objects have one dimension");
        return super.visitVariable(tree, nothing);
    }

    @Override
    public Void visitMethod(MethodTree tree, Void nothing) {
        ExecutableElement element = (ExecutableElement) here();
        boolean outermost = element.getEnclosingElement().getSimpleName().contentEquals("WordMill");
        boolean open = element.getModifiers().contains(Modifier.PUBLIC);
        if (element.getKind() == ElementKind.CONSTRUCTOR) {
            must(!outermost || open && tree.getParameters().isEmpty(), tree, "1: one public constructor, without parameters");
        } else if (outermost && open) {
            face.add(bare(element.getReturnType()) + " " + told(element));
        } else {
            must(!outermost || element.getModifiers().contains(Modifier.PRIVATE), tree, "1: " + tree.getName() + " is private");
            otherNames.add(tree.getName().toString());
        }
        must(!Set.of("equals", "hashCode", "toString").contains(tree.getName().toString()), tree, "6: no " + tree.getName());
        must(tree.getThrows().isEmpty() && !element.getModifiers().contains(Modifier.SYNCHRONIZED), tree, "6: no throws");
        must(tree.getParameters().size() <= MOST_PARAMETERS, tree, "11: at most seven parameters");
        long first = lines.getLineNumber(places.getStartPosition(unit, tree));
        long last = lines.getLineNumber(Math.max(places.getStartPosition(unit, tree), places.getEndPosition(unit, tree)));
        must(last - first < MOST_LINES, tree, "11: methods stay short");
        method = inClass(element);
        methods.put(method, element);
        calls.putIfAbsent(method, new LinkedHashSet<>());
        return super.visitMethod(tree, nothing);
    }

    // ---- what stands in methods

    @Override
    public Void visitMethodInvocation(MethodInvocationTree tree, Void nothing) {
        ExecutableElement called = (ExecutableElement) here();
        if (called.getKind() != ElementKind.CONSTRUCTOR) {
            if (isOwn(called.getEnclosingElement())) {
                calls.computeIfAbsent(method, m -> new LinkedHashSet<>()).add(inClass(called));
            } else {
                must(LIBRARY.contains(inClass(called)), tree, "4: " + inClass(called));
            }
        }
        return super.visitMethodInvocation(tree, nothing);
    }

    @Override
    public Void visitNewClass(NewClassTree tree, Void nothing) {
        ExecutableElement made = (ExecutableElement) here();
        must(tree.getClassBody() == null, tree, "2: no anonymous class");
        must(isOwn(made.getEnclosingElement()), tree, "4: new " + made.getEnclosingElement());
        return super.visitNewClass(tree, nothing);
    }

    private TypeMirror typeOf(ExpressionTree tree) {
        return trees.getTypeMirror(new TreePath(getCurrentPath(), tree));
    }

    private boolean isText(ExpressionTree tree) {
        TypeMirror type = typeOf(tree);
        return type != null && bare(type).equals("String");
    }

    @Override
    public Void visitBinary(BinaryTree tree, Void nothing) {
        must(!isText(tree.getLeftOperand()) && !isText(tree.getRightOperand()), tree, "6, 10: no " + tree.getKind() + " of texts");
        return super.visitBinary(tree, nothing);
    }

    @Override
    public Void visitCompoundAssignment(CompoundAssignmentTree tree, Void nothing) {
        must(!isText(tree.getVariable()), tree, "10: texts are not joined by +");
        return super.visitCompoundAssignment(tree, nothing);
    }

    @Override
    public Void visitWhileLoop(WhileLoopTree tree, Void nothing) {
        must(!tree.getCondition().toString().equals("(true)"), tree, "9: a loop with an end");
        return super.visitWhileLoop(tree, nothing);
    }

    @Override
    public Void visitDoWhileLoop(DoWhileLoopTree tree, Void nothing) {
        must(!tree.getCondition().toString().equals("(true)"), tree, "9: a loop with an end");
        return super.visitDoWhileLoop(tree, nothing);
    }

    @Override
    public Void visitForLoop(ForLoopTree tree, Void nothing) {
        must(tree.getCondition() != null, tree, "9: a loop with an end");
        must(!tree.getUpdate().isEmpty(), tree, "9: a counter that goes on");
        return super.visitForLoop(tree, nothing);
    }

    @Override
    public Void visitEnhancedForLoop(EnhancedForLoopTree tree, Void nothing) {
        must(typeOf(tree.getExpression()).getKind() == TypeKind.ARRAY, tree, "12: for over an array (a list goes by its index)");
        return super.visitEnhancedForLoop(tree, nothing);
    }

    @Override
    public Void visitCase(CaseTree tree, Void nothing) {
        must(tree.getCaseKind() == CaseTree.CaseKind.STATEMENT, tree, "6: a plain switch");
        return super.visitCase(tree, nothing);
    }

    @Override
    public Void visitLambdaExpression(LambdaExpressionTree tree, Void nothing) {
        must(false, tree, "2: no lambda");
        return null;
    }

    @Override
    public Void visitMemberReference(MemberReferenceTree tree, Void nothing) {
        must(false, tree, "2: no method reference");
        return null;
    }

    @Override
    public Void visitThrow(ThrowTree tree, Void nothing) {
        must(false, tree, "6: no throw");
        return null;
    }

    @Override
    public Void visitTry(TryTree tree, Void nothing) {
        must(false, tree, "6: no try");
        return null;
    }

    @Override
    public Void visitSynchronized(SynchronizedTree tree, Void nothing) {
        must(false, tree, "6: no synchronized");
        return null;
    }

    @Override
    public Void visitAssert(AssertTree tree, Void nothing) {
        must(false, tree, "6: no assert");
        return null;
    }

    @Override
    public Void visitAnnotation(AnnotationTree tree, Void nothing) {
        must(false, tree, "no annotation is needed: " + tree);
        return null;
    }
}
