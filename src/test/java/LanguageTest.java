import com.sun.source.tree.*;
import com.sun.source.util.JavacTask;
import com.sun.source.util.TreePath;
import com.sun.source.util.TreePathScanner;
import com.sun.source.util.Trees;
import java.io.File;
import java.nio.file.Files;
import java.nio.file.Path;
import java.util.ArrayList;
import java.util.HashMap;
import java.util.HashSet;
import java.util.LinkedHashMap;
import java.util.List;
import java.util.Map;
import java.util.Set;
import java.util.TreeSet;
import java.util.regex.Matcher;
import java.util.regex.Pattern;
import javax.lang.model.element.Element;
import javax.lang.model.element.ElementKind;
import javax.lang.model.element.Modifier;
import javax.tools.JavaCompiler;
import javax.tools.StandardJavaFileManager;
import javax.tools.ToolProvider;

/** Holds the class to LANGUAGE.md as far as a program can see it, and its face to that of DOC.md. */
public final class LanguageTest extends TreePathScanner<Void, Void> {
    private static final Set<String> LIBRARY = Set.of("String.length", "String.charAt", "String.isEmpty",
        "String.equals", "String.indexOf", "String.substring", "String.toCharArray", "StringBuilder.append",
        "StringBuilder.charAt", "StringBuilder.setCharAt", "StringBuilder.setLength", "StringBuilder.deleteCharAt",
        "StringBuilder.reverse", "StringBuilder.length", "StringBuilder.toString", "Math.max", "Math.min", "Math.abs",
        "Integer.bitCount", "System.arraycopy", "Arrays.fill", "Kind.values", "AbstractStringBuilder.length",
        "AbstractStringBuilder.charAt", "AbstractStringBuilder.setLength", "AbstractStringBuilder.setCharAt");
    private static final Set<String> NEW_OF_LIBRARY = Set.of("StringBuilder");

    private final Trees trees;
    private final CompilationUnitTree unit;
    private final String source;
    private final Check check;
    private final Set<String> face = new TreeSet<>();
    private final Set<String> publicNames = new HashSet<>();
    private final Map<Element, Set<Element>> calls = new LinkedHashMap<>();
    private final Set<Element> recursive = new HashSet<>();
    private int classes;

    private LanguageTest(Trees trees, CompilationUnitTree unit, String source, Check check) {
        this.trees = trees;
        this.unit = unit;
        this.source = source;
        this.check = check;
    }

    public static void main(String[] args) throws Exception {
        Path file = Path.of("src/main/java/LinenPool.java");
        JavaCompiler compiler = ToolProvider.getSystemJavaCompiler();
        StandardJavaFileManager files = compiler.getStandardFileManager(null, null, null);
        JavacTask task = (JavacTask) compiler.getTask(null, files, null, List.of("-proc:none"), null,
            files.getJavaFileObjects(new File(file.toString())));
        CompilationUnitTree unit = task.parse().iterator().next();
        task.analyze();
        Check check = new Check();
        LanguageTest test = new LanguageTest(Trees.instance(task), unit, Files.readString(file), check);
        test.checkImports();
        test.namePublic();
        test.scan(unit, null);
        test.checkFace(Files.readString(Path.of("../shared/DOC.md")));
        test.checkDepth();
        check.due("rule 11: at most twelve classes, there are " + test.classes, test.classes <= 12, true);
        check.end();
    }

    private void wrong(String rule, Tree tree) {
        long line = unit.getLineMap().getLineNumber(trees.getSourcePositions().getStartPosition(unit, tree));
        check.due(rule + ", line " + line, true, false);
    }

    private void checkImports() {
        for (ImportTree tree : unit.getImports()) {
            String name = tree.getQualifiedIdentifier().toString();
            if (!name.matches("java\\.util\\.(Arrays|ArrayList|List|Iterator)")) {
                wrong("rule 4: import " + name, tree);
            }
        }
        check.due("a package line", unit.getPackageName() == null, true);
    }

    private void namePublic() {
        ClassTree outer = (ClassTree) unit.getTypeDecls().get(0);
        for (Tree member : outer.getMembers()) {
            if (member instanceof MethodTree method && method.getModifiers().getFlags().contains(Modifier.PUBLIC)) {
                publicNames.add(method.getName().toString());
            }
        }
    }

    /** The face of the document and that of the class, each as lines without blanks or names of arguments. */
    private void checkFace(String doc) {
        Set<String> due = new TreeSet<>();
        Matcher block = Pattern.compile("```java\n(.*?)```", Pattern.DOTALL).matcher(doc);
        check.due("DOC.md has a face", block.find(), true);
        for (String line : block.group(1).split("\n")) {
            Matcher method = Pattern.compile("public (?:\\w+ )?(\\w+)\\((.*)\\);").matcher(line.trim());
            if (method.matches()) {
                due.add(line.trim().replaceAll("(int|boolean|long) \\w+([,)])", "$1$2").replace(";", ""));
            }
        }
        check.due("the face", face.toString(), due.toString());
        check.due("NONE", LinenPool.NONE, -1);
    }

    @Override
    public Void visitClass(ClassTree tree, Void none) {
        classes++;
        boolean outer = getCurrentPath().getParentPath().getLeaf() == unit;
        Set<Modifier> flags = tree.getModifiers().getFlags();
        if (outer && !(flags.contains(Modifier.PUBLIC) && flags.contains(Modifier.FINAL))) {
            wrong("rule 1: the class is public and final", tree);
        }
        if (!outer && (flags.contains(Modifier.PUBLIC) || flags.contains(Modifier.PROTECTED))) {
            wrong("rule 1: a class inside is private or package-visible", tree);
        }
        if (!outer && tree.getKind() == Tree.Kind.CLASS && !flags.contains(Modifier.STATIC)) {
            wrong("rule 2: an inner class that isn't static", tree);
        }
        int fields = 0;
        for (Tree member : tree.getMembers()) {
            if (member instanceof VariableTree field && !field.getModifiers().getFlags().contains(Modifier.STATIC)) {
                fields++;
            }
            if (member instanceof BlockTree) {
                wrong("rule 5: an initialiser block", member);
            }
            checkMember(member, outer);
        }
        if (fields > 20) {
            wrong("rule 11: " + fields + " fields in " + tree.getSimpleName(), tree);
        }
        return super.visitClass(tree, none);
    }

    private void checkMember(Tree member, boolean outer) {
        if (member instanceof VariableTree field) {
            Set<Modifier> flags = field.getModifiers().getFlags();
            boolean isNone = field.getName().contentEquals("NONE");
            if (outer && !flags.contains(Modifier.PRIVATE) && !isNone) {
                wrong("rule 1: a field that isn't private", field);
            }
            if (flags.contains(Modifier.STATIC) && !flags.contains(Modifier.FINAL)) {
                wrong("rule 5: a static field that isn't final", field);
            }
        }
        if (member instanceof MethodTree method) {
            Set<Modifier> flags = method.getModifiers().getFlags();
            if (outer && !flags.contains(Modifier.PUBLIC) && !flags.contains(Modifier.PRIVATE)) {
                wrong("rule 1: a method that is neither public nor private", method);
            }
            if (flags.contains(Modifier.PRIVATE) && method.getReturnType() != null
                && publicNames.contains(method.getName().toString())) {
                wrong("rule 1: a private method with the name of a public one", method);
            }
        }
    }

    @Override
    public Void visitMethod(MethodTree tree, Void none) {
        Set<Modifier> flags = tree.getModifiers().getFlags();
        ClassTree owner = (ClassTree) getCurrentPath().getParentPath().getLeaf();
        if (owner == unit.getTypeDecls().get(0) && flags.contains(Modifier.PUBLIC)) {
            StringBuilder line = new StringBuilder("public ");
            boolean isConstructor = tree.getReturnType() == null;
            line.append(isConstructor ? "LinenPool" : tree.getReturnType() + " " + tree.getName()).append('(');
            for (int i = 0; i < tree.getParameters().size(); i++) {
                line.append(i > 0 ? ", " : "").append(tree.getParameters().get(i).getType());
            }
            face.add(line.append(')').toString());
        }
        if (tree.getParameters().size() > 7) {
            wrong("rule 11: more than seven parameters", tree);
        }
        long from = trees.getSourcePositions().getStartPosition(unit, tree);
        long to = trees.getSourcePositions().getEndPosition(unit, tree);
        if (to > from && source.substring((int) from, (int) to).split("\n").length > 60) {
            wrong("rule 11: a method of more than sixty lines", tree);
        }
        calls.putIfAbsent(trees.getElement(getCurrentPath()), new HashSet<>());
        return super.visitMethod(tree, none);
    }

    private Element methodHere() {
        for (TreePath path = getCurrentPath(); path != null; path = path.getParentPath()) {
            if (path.getLeaf() instanceof MethodTree) {
                return trees.getElement(path);
            }
        }
        return null;
    }

    @Override
    public Void visitMethodInvocation(MethodInvocationTree tree, Void none) {
        Element called = trees.getElement(getCurrentPath());
        Element from = methodHere();
        if (from != null && called != null) {
            calls.computeIfAbsent(from, key -> new HashSet<>()).add(called);
        }
        if (called != null && called.getKind() == ElementKind.METHOD) {
            String owner = called.getEnclosingElement().toString();
            String name = called.getEnclosingElement().getSimpleName() + "." + called.getSimpleName();
            if ((owner.startsWith("java.") || name.equals("Kind.ordinal")) && !LIBRARY.contains(name)) {
                wrong("rule 4: " + name, tree);
            }
        }
        return super.visitMethodInvocation(tree, none);
    }

    @Override
    public Void visitNewClass(NewClassTree tree, Void none) {
        Element made = trees.getElement(getCurrentPath());
        if (made != null) {
            String owner = made.getEnclosingElement().toString();
            String name = made.getEnclosingElement().getSimpleName().toString();
            if (owner.startsWith("java.") && !NEW_OF_LIBRARY.contains(name)) {
                wrong("rule 4: new " + name, tree);
            }
            Element from = methodHere();
            if (from != null) {
                calls.computeIfAbsent(from, key -> new HashSet<>()).add(made);
            }
        }
        if (tree.getClassBody() != null) {
            wrong("rule 2: an anonymous class or a constant with a body", tree);
        }
        return super.visitNewClass(tree, none);
    }

    @Override
    public Void visitMemberSelect(MemberSelectTree tree, Void none) {
        Element named = trees.getElement(getCurrentPath());
        if (named != null && named.getKind() == ElementKind.FIELD
            && named.getEnclosingElement().toString().startsWith("java.")) {
            wrong("rule 4: " + tree, tree);
        }
        return super.visitMemberSelect(tree, none);
    }

    @Override
    public Void visitVariable(VariableTree tree, Void none) {
        Element named = trees.getElement(getCurrentPath());
        String type = String.valueOf(trees.getTypeMirror(getCurrentPath()));
        if (type.endsWith("[][][]") || type.endsWith("[][]") && !type.matches("(int|long|short|byte|double|float).*")) {
            wrong("rule 3: " + type, tree);
        }
        if (type.matches("(java\\.lang\\.)?(Object|Long|Boolean|Character|Double|Number|Short|Byte|Float)\\b.*")) {
            wrong("rule 3: " + type, tree);
        }
        boolean isConstant = named != null && named.getKind() == ElementKind.FIELD
            && named.getModifiers().contains(Modifier.STATIC);
        boolean isEach = type.equals("LinenPool.Kind[]")
            && "Kind.values()".equals(String.valueOf(tree.getInitializer()));
        boolean isPlain = type.matches("int|long|boolean|char|java\\.lang\\.String|(int|long|char|byte)\\[\\]")
            || named != null && named.getKind() == ElementKind.ENUM_CONSTANT;
        if (isConstant && !isEach && !isPlain) {
            wrong("rule 5: a static field that is " + type, tree);
        }
        boolean inEnum = named != null && named.getKind() == ElementKind.FIELD
            && named.getEnclosingElement().getKind() == ElementKind.ENUM;
        if (inEnum && !type.matches("int|long|boolean|java\\.lang\\.String")) {
            wrong("rule 2: an enum's field that is " + type, tree);
        }
        return super.visitVariable(tree, none);
    }

    @Override
    public Void visitForLoop(ForLoopTree tree, Void none) {
        checkEnd(tree.getCondition(), tree);
        return super.visitForLoop(tree, none);
    }

    @Override
    public Void visitWhileLoop(WhileLoopTree tree, Void none) {
        checkEnd(tree.getCondition(), tree);
        return super.visitWhileLoop(tree, none);
    }

    @Override
    public Void visitDoWhileLoop(DoWhileLoopTree tree, Void none) {
        checkEnd(tree.getCondition(), tree);
        return super.visitDoWhileLoop(tree, none);
    }

    private void checkEnd(ExpressionTree condition, Tree loop) {
        if (condition == null || condition.toString().replaceAll("[()]", "").equals("true")) {
            wrong("rule 9: a loop without an end of its own", loop);
        }
    }

    @Override
    public Void visitThrow(ThrowTree tree, Void none) {
        wrong("rule 6: throw", tree);
        return super.visitThrow(tree, none);
    }

    @Override
    public Void visitTry(TryTree tree, Void none) {
        wrong("rule 6: try", tree);
        return super.visitTry(tree, none);
    }

    @Override
    public Void visitSynchronized(SynchronizedTree tree, Void none) {
        wrong("rule 6: synchronized", tree);
        return super.visitSynchronized(tree, none);
    }

    @Override
    public Void visitAssert(AssertTree tree, Void none) {
        wrong("rule 6: assert", tree);
        return super.visitAssert(tree, none);
    }

    @Override
    public Void visitLambdaExpression(LambdaExpressionTree tree, Void none) {
        wrong("rule 2: a lambda", tree);
        return super.visitLambdaExpression(tree, none);
    }

    @Override
    public Void visitMemberReference(MemberReferenceTree tree, Void none) {
        wrong("rule 2: a method reference", tree);
        return super.visitMemberReference(tree, none);
    }

    @Override
    public Void visitBinary(BinaryTree tree, Void none) {
        String type = String.valueOf(trees.getTypeMirror(getCurrentPath()));
        if (type.equals("java.lang.String")) {
            wrong("rule 10: texts joined by +", tree);
        }
        return super.visitBinary(tree, none);
    }

    @Override
    public Void visitCompoundAssignment(CompoundAssignmentTree tree, Void none) {
        if (String.valueOf(trees.getTypeMirror(getCurrentPath())).equals("java.lang.String")) {
            wrong("rule 10: texts joined by +=", tree);
        }
        return super.visitCompoundAssignment(tree, none);
    }

    @Override
    public Void visitLiteral(LiteralTree tree, Void none) {
        if (tree.getValue() instanceof String text && !text.chars().allMatch(c -> c >= 1 && c <= 127)) {
            wrong("rule 4: a sign beyond 127 in a text", tree);
        }
        return super.visitLiteral(tree, none);
    }

    // ---- rules 8 and 11: how deep calls go ----

    /** Calls among methods that call one another count once, as recursion. */
    private void checkDepth() {
        for (Element method : calls.keySet()) {
            if (reaches(method, method, new HashSet<>())) {
                recursive.add(method);
                check.due("rule 8: " + method + " is recursive and private",
                    method.getModifiers().contains(Modifier.PRIVATE), true);
            }
        }
        Map<Element, Integer> depths = new HashMap<>();
        for (Element method : calls.keySet()) {
            int depth = depth(method, depths);
            check.due("rule 11: calls of " + method.getEnclosingElement() + "." + method + " go " + depth + " deep",
                depth <= 8, true);
        }
    }

    private boolean reaches(Element from, Element to, Set<Element> seen) {
        for (Element next : calls.getOrDefault(from, Set.of())) {
            if (next.equals(to) || seen.add(next) && reaches(next, to, seen)) {
                return true;
            }
        }
        return false;
    }

    private int depth(Element method, Map<Element, Integer> depths) {
        if (!calls.containsKey(method)) {
            return 0;
        }
        if (depths.containsKey(method)) {
            return depths.get(method);
        }
        List<Element> group = new ArrayList<>(List.of(method));
        if (recursive.contains(method)) {
            for (Element other : recursive) {
                if (!other.equals(method) && reaches(method, other, new HashSet<>())
                    && reaches(other, method, new HashSet<>())) {
                    group.add(other);
                }
            }
        }
        int deepest = 0;
        for (Element one : group) {
            for (Element next : calls.get(one)) {
                if (!group.contains(next)) {
                    deepest = Math.max(deepest, depth(next, depths));
                }
            }
        }
        depths.put(method, deepest + 1);
        return deepest + 1;
    }
}
