import com.sun.source.tree.ArrayAccessTree;
import com.sun.source.tree.BinaryTree;
import com.sun.source.tree.ClassTree;
import com.sun.source.tree.ExpressionTree;
import com.sun.source.tree.ForLoopTree;
import com.sun.source.tree.MethodInvocationTree;
import com.sun.source.tree.MethodTree;
import com.sun.source.tree.NewClassTree;
import com.sun.source.tree.Tree;
import com.sun.source.tree.VariableTree;
import com.sun.source.util.TreePath;
import java.lang.reflect.Modifier;
import java.util.ArrayList;
import java.util.Arrays;
import java.util.HashSet;
import java.util.List;
import java.util.Map;
import java.util.Set;
import java.util.TreeSet;
import java.util.regex.Pattern;
import java.util.stream.Collectors;
import java.util.stream.Stream;
import javax.lang.model.element.Element;
import javax.lang.model.element.ElementKind;
import javax.lang.model.element.ExecutableElement;

/** ../shared/LANGUAGE.md, rule by rule, as far as it can be seen from the text; NeverThrows and DocumentTests run the class. */
public final class LanguageTest {
    private static final Set<String> FACE = Set.of(
        "best(int,int)", "clearText()", "count(int)", "difference(int,int,int)", "fill(int,int,int,int,int)", "frame(int,int)",
        "keep()", "paint()", "point(int,int,int)", "restore()", "send(boolean)", "sendKeyed(boolean)", "sent(int,int)",
        "set(int,int,int)", "setNumber(int,int)", "shift(int,int)", "spiral(int,int)", "type(char)", "undo()",
        "wouldCode(int,int,int)", "wouldNeed()", "wouldSpend(int)");
    private static final Set<String> CONSTANTS = Set.of("UNKNOWN", "BAD_VALUE", "FULL", "NOT_POSSIBLE", "NONE");
    private static final Set<String> LIBRARY = Set.of(
        "java.lang.Math.abs", "java.lang.Math.min", "java.lang.Math.max", "java.lang.Math.floorMod", "java.lang.Math.floorDiv",
        "java.lang.System.arraycopy");
    private static final Set<Tree.Kind> RULED_OUT = Set.of(
        Tree.Kind.THROW, Tree.Kind.TRY, Tree.Kind.CATCH, Tree.Kind.SYNCHRONIZED, Tree.Kind.ASSERT, Tree.Kind.LAMBDA_EXPRESSION,
        Tree.Kind.MEMBER_REFERENCE, Tree.Kind.ANNOTATION, Tree.Kind.SWITCH_EXPRESSION, Tree.Kind.YIELD, Tree.Kind.TYPE_CAST,
        Tree.Kind.INSTANCE_OF, Tree.Kind.STRING_LITERAL);
    private static final Set<String> TYPES = Set.of("void", "int", "boolean", "char", "int[]", "char[]");
    private static final int MOST_PARAMETERS = 7;
    private static final int MOST_LINES = 60;
    private static final int MOST_FIELDS = 20;
    private static final int MOST_CLASSES = 12;
    private static final int MOST_DEEP = 8;

    private static Source source;

    private LanguageTest() {
    }

    public static void main(String[] args) throws Exception {
        source = Source.read("src/main/java/SpiralFrames.java");
        Tests.test("rule 1: the face, and nothing else that is shown", LanguageTest::face);
        Tests.test("rule 1: no private method bears the name of a public one", LanguageTest::names);
        Tests.test("rule 2: classes inside are static, and none is local or anonymous; no lambda, no method reference", LanguageTest::inside);
        Tests.test("rule 3: types", LanguageTest::types);
        Tests.test("rule 4: the library", LanguageTest::library);
        Tests.test("rule 5: static fields are constants that are never changed", LanguageTest::statics);
        Tests.test("rule 6: nothing that is ruled out", LanguageTest::ruledOut);
        Tests.test("rule 7: divisors are constants that are not 0", LanguageTest::divisors);
        Tests.test("rule 8: no recursion, and calls at most eight deep (rule 11)", LanguageTest::depth);
        Tests.test("rule 9: every loop counts up to a bound", LanguageTest::loops);
        Tests.test("rule 11: parameters, lines, classes and fields", LanguageTest::sizes);
        Tests.test("rule 12: objects are made ahead of all calls, or by record() and keep() alone, and in no loop", LanguageTest::made);
        Tests.test("signs of the text are 1 to 127, without a package line or an import", LanguageTest::text);
        Tests.end();
    }

    private static void none(Due due, String what, boolean isBroken) {
        due.holds("no " + what, !isBroken);
    }

    private static List<MethodTree> methods() {
        return source.all(MethodTree.class).stream().filter(method -> source.line(method) > 0).collect(Collectors.toList());
    }

    private static boolean isConstructor(MethodTree method) {
        return method.getName().contentEquals("<init>");
    }

    private static void face(Due due) {
        due.is("modifiers of the class", SpiralFrames.class.getModifiers(), Modifier.PUBLIC | Modifier.FINAL);
        Set<String> shown = new TreeSet<>();
        Stream.of(SpiralFrames.class.getDeclaredMethods()).filter(method -> !Modifier.isPrivate(method.getModifiers())).forEach(method -> {
            due.is("modifiers of " + method, method.getModifiers(), Modifier.PUBLIC);
            none(due, "answer but an int: " + method, method.getReturnType() != int.class);
            shown.add(method.getName() + Arrays.stream(method.getParameterTypes()).map(Class::getName)
                .collect(Collectors.joining(",", "(", ")")));
        });
        none(due, "other methods: " + shown, !shown.equals(FACE));
        none(due, "other constructors", SpiralFrames.class.getDeclaredConstructors().length != 1
            || SpiralFrames.class.getConstructors().length != 1 || SpiralFrames.class.getConstructors()[0].getParameterCount() != 0);
        Set<String> constants = Stream.of(SpiralFrames.class.getDeclaredFields()).filter(field -> !Modifier.isPrivate(field.getModifiers()))
            .map(field -> field.getName()).collect(Collectors.toSet());
        none(due, "other constants: " + constants, !constants.equals(CONSTANTS));
        Stream.of(SpiralFrames.class.getFields()).forEach(field ->
            due.is("modifiers of " + field, field.getModifiers(), Modifier.PUBLIC | Modifier.STATIC | Modifier.FINAL));
        for (Class<?> inside : SpiralFrames.class.getDeclaredClasses()) {
            Stream.of(inside.getDeclaredMethods()).forEach(method ->
                none(due, "shown inside: " + method, !Modifier.isPrivate(method.getModifiers())));
            Stream.of(inside.getDeclaredFields()).forEach(field ->
                none(due, "shown inside: " + field, !Modifier.isPrivate(field.getModifiers())));
        }
    }

    private static void names(Due due) {
        Set<String> names = FACE.stream().map(signature -> signature.replaceFirst("\\(.*", "")).collect(Collectors.toSet());
        for (MethodTree method : methods()) {
            boolean isPrivate = source.element(method).getModifiers().contains(javax.lang.model.element.Modifier.PRIVATE);
            none(due, "private " + method.getName(), isPrivate && names.contains(method.getName().toString()));
        }
    }

    private static void inside(Due due) {
        for (ClassTree inside : source.all(ClassTree.class)) {
            Element element = source.element(inside);
            boolean isFace = element.getSimpleName().contentEquals("SpiralFrames");
            none(due, "class elsewhere: " + element, !isFace && element.getEnclosingElement().getKind() != ElementKind.CLASS);
            none(due, "class that is not static: " + element,
                !isFace && !element.getModifiers().contains(javax.lang.model.element.Modifier.STATIC));
            none(due, "class that is shown: " + element,
                !isFace && !element.getModifiers().contains(javax.lang.model.element.Modifier.PRIVATE));
        }
        for (NewClassTree made : source.all(NewClassTree.class)) {
            none(due, "anonymous class in line " + source.line(made), made.getClassBody() != null);
        }
    }

    private static void types(Due due) {
        Set<String> own = source.all(ClassTree.class).stream().map(inside -> inside.getSimpleName().toString()).collect(Collectors.toSet());
        List<Tree> types = new ArrayList<>();
        source.all(VariableTree.class).forEach(variable -> types.add(variable.getType()));
        methods().stream().filter(method -> !isConstructor(method)).forEach(method -> types.add(method.getReturnType()));
        for (Tree type : types) {
            String name = String.valueOf(type);
            none(due, "type " + name, !TYPES.contains(name) && !own.contains(name.replace("[]", "")) || name.endsWith("[][]"));
        }
    }

    private static void library(Due due) {
        for (MethodInvocationTree call : source.all(MethodInvocationTree.class)) {
            ExecutableElement called = (ExecutableElement) source.element(call);
            String name = called.getEnclosingElement() + "." + called.getSimpleName();
            boolean isFirst = name.equals("java.lang.Object.<init>") || name.equals("java.lang.Object.super");
            none(due, "call of " + name, !isFirst && !name.startsWith("SpiralFrames") && !LIBRARY.contains(name));
        }
        for (NewClassTree made : source.all(NewClassTree.class)) {
            none(due, "new " + made.getIdentifier(), !String.valueOf(source.element(made).getEnclosingElement()).startsWith("SpiralFrames"));
        }
    }

    private static void statics(Due due) {
        for (ClassTree holder : source.all(ClassTree.class)) {
            for (Tree member : holder.getMembers()) {
                none(due, "static block in line " + source.line(member), member.getKind() == Tree.Kind.BLOCK);
                if (member instanceof VariableTree field && isStatic(source.element(field))) {
                    boolean isFinal = source.element(field).getModifiers().contains(javax.lang.model.element.Modifier.FINAL);
                    none(due, "changed static " + field.getName(), !isFinal);
                    String type = String.valueOf(field.getType());
                    none(due, "static " + type, !type.equals("int") && !type.equals("int[]"));
                    boolean isWritten = field.getInitializer() != null && field.getInitializer().getKind() != Tree.Kind.METHOD_INVOCATION;
                    none(due, "static that is not written out: " + field.getName(), !isWritten);
                }
            }
        }
        for (ExpressionTree changed : source.changed()) {
            ExpressionTree base = changed instanceof ArrayAccessTree part ? part.getExpression() : changed;
            none(due, "change of a static in line " + source.line(changed), source.element(base) != null && isStatic(source.element(base)));
        }
    }

    private static boolean isStatic(Element element) {
        return element.getModifiers().contains(javax.lang.model.element.Modifier.STATIC);
    }

    private static void ruledOut(Due due) {
        for (Tree tree : source.all(Tree.class)) {
            none(due, tree.getKind() + " in line " + source.line(tree), RULED_OUT.contains(tree.getKind()));
        }
        for (MethodTree method : methods()) {
            none(due, "throws of " + method.getName(), !method.getThrows().isEmpty());
            none(due, "own " + method.getName(), Set.of("equals", "hashCode", "toString").contains(method.getName().toString()));
        }
    }

    private static void divisors(Due due) {
        for (BinaryTree operation : source.all(BinaryTree.class)) {
            if (operation.getKind() == Tree.Kind.DIVIDE || operation.getKind() == Tree.Kind.REMAINDER) {
                none(due, "divisor that may be 0 in line " + source.line(operation), !isAboveZero(operation.getRightOperand()));
            }
        }
        for (MethodInvocationTree call : source.all(MethodInvocationTree.class)) {
            if (source.element(call).getSimpleName().toString().startsWith("floor")) {
                none(due, "divisor that may be 0 in line " + source.line(call), !isAboveZero(call.getArguments().get(1)));
            }
        }
        due.holds("divisors are seen", source.all(BinaryTree.class).size() > 10);
    }

    private static boolean isAboveZero(ExpressionTree divisor) {
        return source.constant(divisor) instanceof Integer number && number > 0;
    }

    private static void depth(Due due) {
        Map<Element, Set<Element>> calls = source.calls();
        int deepest = 0;
        for (Element method : calls.keySet()) {
            int deep = deep(method, calls, new HashSet<>());
            none(due, "recursion from " + method, deep > 1000);
            deepest = Math.max(deepest, deep);
        }
        due.holds("calls are at most eight deep: " + deepest, deepest <= MOST_DEEP && deepest > 2);
    }

    /** How many calls stand open at once below this one, it included; far too many if it comes back to itself. */
    private static int deep(Element method, Map<Element, Set<Element>> calls, Set<Element> open) {
        if (!open.add(method)) {
            return 100_000;
        }
        int deepest = 0;
        for (Element called : calls.getOrDefault(method, Set.of())) {
            deepest = Math.max(deepest, deep(called, calls, open));
        }
        open.remove(method);
        return 1 + deepest;
    }

    private static void loops(Due due) {
        Set<Tree.Kind> others = Set.of(Tree.Kind.WHILE_LOOP, Tree.Kind.DO_WHILE_LOOP, Tree.Kind.ENHANCED_FOR_LOOP);
        none(due, "other loop", source.all(Tree.class).stream().anyMatch(tree -> others.contains(tree.getKind())));
        for (ForLoopTree loop : source.all(ForLoopTree.class)) {
            String counter = ((VariableTree) loop.getInitializer().get(0)).getName().toString();
            due.holds("the bound in line " + source.line(loop),
                Pattern.matches("\\(?" + counter + " <=? [^=]*", String.valueOf(loop.getCondition())));
            due.is("the steps in line " + source.line(loop), loop.getUpdate().size(), 1);
            due.holds("the step in line " + source.line(loop), String.valueOf(loop.getUpdate().get(0)).matches(counter + "\\+\\+;?"));
            none(due, "change of the counter in line " + source.line(loop),
                source.changedWithin(loop.getStatement()).stream().anyMatch(changed -> changed.toString().equals(counter)));
        }
        due.holds("loops are seen", source.all(ForLoopTree.class).size() > 10);
    }

    private static void sizes(Due due) {
        none(due, "more classes", source.all(ClassTree.class).size() > MOST_CLASSES);
        for (MethodTree method : methods()) {
            none(due, "more parameters of " + method.getName(), method.getParameters().size() > MOST_PARAMETERS);
            none(due, "longer " + method.getName(), source.lines(method) > MOST_LINES);
        }
        for (ClassTree holder : source.all(ClassTree.class)) {
            long fields = holder.getMembers().stream().filter(member -> member instanceof VariableTree && !isStatic(source.element(member))).count();
            none(due, "more fields of " + holder.getSimpleName(), fields > MOST_FIELDS);
        }
    }

    private static void made(Due due) {
        for (Tree made : source.all(Tree.class)) {
            if (made.getKind() != Tree.Kind.NEW_CLASS && made.getKind() != Tree.Kind.NEW_ARRAY) {
                continue;
            }
            boolean isField = true;
            boolean isAllowed = false;
            for (TreePath path = source.path(made); path != null; path = path.getParentPath()) {
                Tree tree = path.getLeaf();
                none(due, "object made in a loop in line " + source.line(made), tree instanceof ForLoopTree);
                if (tree instanceof MethodTree method) {
                    isField = false;
                    isAllowed = Set.of("record", "keep").contains(method.getName().toString());
                }
            }
            due.holds("made ahead of all calls, or where it may be, in line " + source.line(made), isField || isAllowed);
        }
    }

    private static void text(Due due) {
        none(due, "other sign", source.text().chars().anyMatch(sign -> sign < 1 || sign > 127));
        none(due, "package line", source.unit().getPackageName() != null);
        none(due, "import", !source.unit().getImports().isEmpty());
        due.is("classes of the file", source.unit().getTypeDecls().size(), 1);
    }
}
