import com.sun.source.tree.*;
import com.sun.source.util.JavacTask;
import com.sun.source.util.SourcePositions;
import com.sun.source.util.TreeScanner;
import com.sun.source.util.Trees;
import java.nio.file.Path;
import java.util.ArrayList;
import java.util.EnumSet;
import java.util.HashMap;
import java.util.List;
import java.util.Map;
import java.util.Set;
import java.util.TreeSet;
import javax.lang.model.element.Modifier;
import javax.lang.model.type.TypeKind;
import javax.tools.JavaCompiler;
import javax.tools.StandardJavaFileManager;
import javax.tools.ToolProvider;

/** The rules of LANGUAGE.md that can be seen in the source, and the public face of the document. */
public final class LanguageTest {
    private static final Path SOURCE = Path.of("src/main/java/SchemaDesk.java");
    private static final Set<String> FACE = Set.of(
        "public SchemaDesk()", "public int type(int,int)", "public int symbol(int,int)", "public boolean fallback(int,int)",
        "public int branch(int,int)", "public int field(int,int,int,int,boolean,int)", "public int add(int)", "public int at(int)",
        "public int wipe(boolean)", "public int number(long)", "public int read(int,int)", "public long result(int)",
        "public int write(int)", "public int safe(int,int)", "public int same(int,int)", "public int different()",
        "int REFUSED", "int SHORT", "int BAD", "int MUCH", "int DEEP", "int MISMATCH", "int FULL", "int LEFT");
    private static final Set<Tree.Kind> FORBIDDEN = EnumSet.of(
        Tree.Kind.THROW, Tree.Kind.TRY, Tree.Kind.CATCH, Tree.Kind.SYNCHRONIZED, Tree.Kind.ASSERT, Tree.Kind.INSTANCE_OF,
        Tree.Kind.LAMBDA_EXPRESSION, Tree.Kind.MEMBER_REFERENCE, Tree.Kind.NEW_CLASS, Tree.Kind.STRING_LITERAL,
        Tree.Kind.NULL_LITERAL, Tree.Kind.FLOAT_LITERAL, Tree.Kind.DOUBLE_LITERAL, Tree.Kind.ANNOTATION);

    private static final Map<String, Set<String>> calls = new HashMap<>();
    private static final List<String> faults = new ArrayList<>();
    private static CompilationUnitTree unit;
    private static SourcePositions positions;

    public static void main(String[] args) throws Exception {
        JavaCompiler compiler = ToolProvider.getSystemJavaCompiler();
        StandardJavaFileManager files = compiler.getStandardFileManager(null, null, null);
        JavacTask task = (JavacTask) compiler.getTask(null, files, null, null, null, files.getJavaFileObjects(SOURCE));
        unit = task.parse().iterator().next();
        positions = Trees.instance(task).getSourcePositions();
        Check.due("package lines", unit.getPackageName() == null ? 0 : 1, 0);
        Check.due("imports", unit.getImports().size(), 0);
        Check.due("classes", unit.getTypeDecls().size(), 1);
        lookAtClass((ClassTree) unit.getTypeDecls().get(0));
        for (String name : calls.keySet()) lookAtDepth(name, new ArrayList<>());
        for (String fault : faults) System.out.println(fault);
        Check.due("faults", faults.size(), 0);
        Check.end();
    }

    private static void fault(Tree at, String what) {
        faults.add(SOURCE + ":" + line(positions.getStartPosition(unit, at)) + ": " + what);
    }

    private static long line(long position) {
        return unit.getLineMap().getLineNumber(position);
    }

    private static void lookAtClass(ClassTree desk) {
        Check.due("public final", desk.getModifiers().getFlags().equals(EnumSet.of(Modifier.PUBLIC, Modifier.FINAL)), true);
        Set<String> face = new TreeSet<>();
        int fields = 0;
        for (Tree member : desk.getMembers()) {
            if (member instanceof MethodTree) {
                lookAtMethod((MethodTree) member, face);
            } else if (member instanceof VariableTree) {
                fields += lookAtField((VariableTree) member, face);
            } else {
                fault(member, "neither field nor method");
            }
        }
        Check.due("the face is the document's: " + face, face.equals(FACE), true);
        Check.due("at most forty fields, here " + fields, fields <= 40, true);
    }

    private static int lookAtField(VariableTree field, Set<String> face) {
        Set<Modifier> flags = field.getModifiers().getFlags();
        boolean constant = flags.contains(Modifier.STATIC);
        if (constant && (!flags.contains(Modifier.FINAL) || !List.of("int", "long").contains(field.getType().toString()))) fault(field, "a static field");
        if (flags.contains(Modifier.PUBLIC)) face.add(field.getType() + " " + field.getName());
        else if (!flags.contains(Modifier.PRIVATE)) fault(field, "not private");
        lookAtType(field.getType());
        if (field.getInitializer() instanceof NewArrayTree) {
            NewArrayTree made = (NewArrayTree) field.getInitializer();
            boolean plain = made.getDimensions().size() == 1 && made.getInitializers() == null
                && (made.getDimensions().get(0) instanceof IdentifierTree || made.getDimensions().get(0) instanceof LiteralTree);
            if (!plain) fault(field, "an array without a plain length");
        } else {
            new Rules("").scan(field.getInitializer(), null);
        }
        return constant ? 0 : 1;
    }

    private static void lookAtType(Tree type) {
        Tree inner = type instanceof ArrayTypeTree ? ((ArrayTypeTree) type).getType() : type;
        if (inner instanceof PrimitiveTypeTree) {
            TypeKind kind = ((PrimitiveTypeTree) inner).getPrimitiveTypeKind();
            if (kind != TypeKind.FLOAT && kind != TypeKind.DOUBLE) return;
        }
        fault(type, "the type " + type);
    }

    private static void lookAtMethod(MethodTree method, Set<String> face) {
        String name = method.getName().toString();
        boolean maker = method.getReturnType() == null;
        StringBuilder types = new StringBuilder();
        for (VariableTree p : method.getParameters()) types.append(types.length() == 0 ? "" : ",").append(p.getType());
        Set<Modifier> flags = method.getModifiers().getFlags();
        if (flags.contains(Modifier.PUBLIC)) {
            face.add("public " + (maker ? "SchemaDesk" : method.getReturnType() + " " + name) + "(" + types + ")");
        } else if (!flags.contains(Modifier.PRIVATE)) {
            fault(method, "not private");
        }
        if (!maker) lookAtType(method.getReturnType());
        if (method.getReturnType() instanceof ArrayTypeTree) fault(method, "an array is answered");
        if (method.getParameters().size() > 7) fault(method, "more than seven parameters");
        long lines = line(positions.getEndPosition(unit, method)) - line(positions.getStartPosition(unit, method)) + 1;
        if (lines > 60) fault(method, lines + " lines");
        if (calls.put(name, new TreeSet<>()) != null) fault(method, "a name used twice");
        new Rules(name).scan(method.getParameters(), null);
        new Rules(name).scan(method.getBody(), null);
    }

    /** The longest way down from a method, itself included; a name met twice on one way is recursion. */
    private static void lookAtDepth(String name, List<String> way) {
        if (way.contains(name)) {
            faults.add("recursion: " + way + " " + name);
            return;
        }
        List<String> longer = new ArrayList<>(way);
        longer.add(name);
        if (longer.size() > 6) faults.add("calls go too deep: " + longer);
        for (String callee : calls.getOrDefault(name, Set.of())) lookAtDepth(callee, longer);
    }

    private static final class Rules extends TreeScanner<Void, Void> {
        private final String method;
        private int arguments = 0;

        Rules(String method) {
            this.method = method;
        }

        @Override
        public Void scan(Tree tree, Void nothing) {
            if (tree != null && FORBIDDEN.contains(tree.getKind())) fault(tree, tree.getKind() + ": " + tree);
            return super.scan(tree, nothing);
        }

        @Override
        public Void visitVariable(VariableTree variable, Void nothing) {
            lookAtType(variable.getType());
            return super.visitVariable(variable, nothing);
        }

        @Override
        public Void visitNewArray(NewArrayTree made, Void nothing) {
            fault(made, "an array made in a method");
            return null;
        }

        @Override
        public Void visitForLoop(ForLoopTree loop, Void nothing) {
            lookAtCondition(loop, loop.getCondition());
            return super.visitForLoop(loop, nothing);
        }

        @Override
        public Void visitWhileLoop(WhileLoopTree loop, Void nothing) {
            lookAtCondition(loop, loop.getCondition());
            return super.visitWhileLoop(loop, nothing);
        }

        @Override
        public Void visitDoWhileLoop(DoWhileLoopTree loop, Void nothing) {
            lookAtCondition(loop, loop.getCondition());
            return super.visitDoWhileLoop(loop, nothing);
        }

        private void lookAtCondition(Tree loop, Tree condition) {
            if (!String.valueOf(condition).matches(".*[<>].*")) fault(loop, "a loop whose end can't be seen");
        }

        @Override
        public Void visitMemberSelect(MemberSelectTree select, Void nothing) {
            boolean own = select.getExpression().toString().equals("this");
            if (!own && !select.getIdentifier().contentEquals("length")) fault(select, "a member of something else: " + select);
            return super.visitMemberSelect(select, nothing);
        }

        @Override
        public Void visitMethodInvocation(MethodInvocationTree call, Void nothing) {
            if (arguments > 0) fault(call, "a call inside the arguments of another");
            // The constructor's call of its superclass's is the compiler's, not the source's.
            String name = call.getMethodSelect().toString().replace("this.", "");
            if (!name.equals("super")) calls.get(method).add(name);
            scan(call.getMethodSelect(), nothing);
            arguments++;
            scan(call.getArguments(), nothing);
            arguments--;
            return null;
        }
    }
}
