import java.io.IOException;
import java.lang.reflect.Constructor;
import java.lang.reflect.Field;
import java.lang.reflect.Method;
import java.lang.reflect.Modifier;
import java.nio.file.Files;
import java.nio.file.Path;
import java.util.Arrays;
import java.util.Set;
import java.util.TreeSet;
import java.util.regex.Matcher;
import java.util.regex.Pattern;
import java.util.stream.Collectors;

/** The face of the class, and what of ../shared/LANGUAGE.md can be seen from its text. */
public final class LanguageTest {
    private static final String[] FACE = {
        "best(int, int)", "clearText()", "count(int)", "difference(int, int, int)", "fill(int, int, int, int, int)", "frame(int, int)",
        "keep()", "paint()", "point(int, int, int)", "restore()", "send(boolean)", "sendKeyed(boolean)", "sent(int, int)",
        "set(int, int, int)", "setNumber(int, int)", "shift(int, int)", "spiral(int, int)", "type(char)", "undo()",
        "wouldCode(int, int, int)", "wouldNeed()", "wouldSpend(int)"};
    private static final String[] RULED_OUT = {
        "\\b(throw|throws|try|catch|finally|synchronized|assert|volatile|transient|native|strictfp|import|package|goto|yield|var)\\b",
        "->", "::", "\\b(float|double)\\b", "Exact\\b", "\\bstatic\\s*\\{", "\\b(public|protected)\\b[^;{(]*\\bclass\\b(?! SpiralFrames)",
        "\\b(equals|hashCode|toString)\\b", "\\b(Thread|Random|Object|Exception|Error)\\b", "@", "\\+ \"|\" \\+", "\\binstanceof\\b"};

    private static final Due DUE = new Due();

    public static void main(String[] args) throws IOException {
        face();
        text(Files.readString(Path.of("src/main/java/SpiralFrames.java")));
        DUE.end();
    }

    private static void none(String rule, boolean isBroken) {
        DUE.is(rule, isBroken ? 1 : 0, 0);
    }

    private static void face() {
        Class<?> face = SpiralFrames.class;
        DUE.is("modifiers of the class", face.getModifiers(), Modifier.PUBLIC | Modifier.FINAL);
        Set<String> shown = new TreeSet<>();
        Set<String> names = new TreeSet<>();
        for (Method method : face.getDeclaredMethods()) {
            if (!Modifier.isPrivate(method.getModifiers())) {
                shown.add(signature(method));
                names.add(method.getName());
                DUE.is("modifiers of " + method, method.getModifiers(), Modifier.PUBLIC);
                none("int is not answered by " + method, method.getReturnType() != int.class);
            }
        }
        none("other methods than the face's: " + shown, !shown.equals(new TreeSet<>(Arrays.asList(FACE))));
        Constructor<?>[] made = face.getDeclaredConstructors();
        none("one public constructor", made.length != 1 || made[0].getParameterCount() != 0 || !Modifier.isPublic(made[0].getModifiers()));
        Set<String> constants = new TreeSet<>();
        for (Field field : face.getDeclaredFields()) {
            if (!Modifier.isPrivate(field.getModifiers())) {
                constants.add(field.getName());
            }
        }
        none("other constants: " + constants, !constants.equals(Set.of("UNKNOWN", "BAD_VALUE", "FULL", "NOT_POSSIBLE", "NONE")));
        members(face, names);
        for (Class<?> inside : face.getDeclaredClasses()) {
            none("a class inside that is not static or shown: " + inside,
                !Modifier.isStatic(inside.getModifiers()) || !Modifier.isPrivate(inside.getModifiers()));
            members(inside, names);
        }
        none("too many classes", face.getDeclaredClasses().length > 11);
    }

    private static String signature(Method method) {
        return method.getName() + Arrays.stream(method.getParameterTypes()).map(Class::getSimpleName)
            .collect(Collectors.joining(", ", "(", ")"));
    }

    private static void members(Class<?> holder, Set<String> names) {
        int fields = 0;
        for (Field field : holder.getDeclaredFields()) {
            boolean isStatic = Modifier.isStatic(field.getModifiers());
            fields += isStatic ? 0 : 1;
            none("static and not final: " + field, isStatic && !Modifier.isFinal(field.getModifiers()));
            none("static and no number: " + field, isStatic && field.getType() != int.class && field.getType() != int[].class);
        }
        none("too many fields in " + holder, fields > 20);
        for (Method method : holder.getDeclaredMethods()) {
            boolean isPrivate = Modifier.isPrivate(method.getModifiers());
            none("too many parameters: " + method, method.getParameterCount() > 7);
            none("a private method with a public name: " + method, isPrivate && names.contains(method.getName()));
            none("shown inside: " + method, !isPrivate && holder != SpiralFrames.class);
        }
    }

    private static void text(String source) {
        String code = source.replaceAll("(?s)/\\*.*?\\*/", "").replaceAll("//[^\n]*", "");
        for (String ruledOut : RULED_OUT) {
            Matcher found = Pattern.compile(ruledOut).matcher(code);
            none("ruled out: " + ruledOut, found.find());
        }
        none("a sign beyond 127", source.chars().anyMatch(sign -> sign > 126 || sign < 32 && sign != '\n'));
        int longest = 0;
        Matcher method = Pattern.compile("(?m)^( {4}| {8})(private|public)[^;=]*\\{\n(?s:.*?)\n\\1\\}").matcher(code);
        while (method.find()) {
            if (!method.group().contains(" class ")) {
                longest = Math.max(longest, method.group().split("\n").length);
            }
        }
        none("no methods are seen", longest < 3);
        none("a method of more than 60 lines: " + longest, longest > 60);
    }
}
