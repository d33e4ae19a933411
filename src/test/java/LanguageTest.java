import java.io.IOException;
import java.lang.reflect.Constructor;
import java.lang.reflect.Field;
import java.lang.reflect.Method;
import java.lang.reflect.Modifier;
import java.nio.file.Files;
import java.nio.file.Path;
import java.util.Set;
import java.util.TreeSet;
import java.util.regex.Matcher;
import java.util.regex.Pattern;

/** The rules of LANGUAGE.md that can be seen from outside: the face, the words of the program, its measures. */
public final class LanguageTest {
    private static final Due DUE = new Due();
    private static final String[] FACE = {"feed", "end", "text", "fault", "curve", "sum", "function", "point", "counted", "share", "fits", "order",
        "norm", "room", "base", "under", "gap", "times", "added", "orderOf", "same", "log", "torsion", "change", "like", "twist", "code", "sent",
        "mended", "count", "image", "again"};

    public static void main(String[] args) throws IOException {
        Set<String> face = new TreeSet<>(Set.of(FACE));
        Set<String> found = new TreeSet<>();
        checkClass(CurveShares.class, face, found, true);
        DUE.same("the face " + found, found.equals(face), true);
        DUE.same("NONE", CurveShares.NONE, -1);
        Class<?>[] inside = CurveShares.class.getDeclaredClasses();
        DUE.same("classes", inside.length < 12, true);
        for (Class<?> one : inside) {
            DUE.same(one + " is static", Modifier.isStatic(one.getModifiers()), true);
            checkClass(one, face, new TreeSet<>(), false);
        }
        words(Files.readString(Path.of("src/main/java/CurveShares.java")));
        DUE.end();
    }

    private static void checkClass(Class<?> one, Set<String> face, Set<String> found, boolean outer) {
        int fields = 0;
        for (Field field : one.getDeclaredFields()) {
            boolean isStatic = Modifier.isStatic(field.getModifiers());
            fields += isStatic ? 0 : 1;
            DUE.same(field + " is final, if static", !isStatic || Modifier.isFinal(field.getModifiers()), true);
            DUE.same(field + " is private", !outer || Modifier.isPrivate(field.getModifiers()) || field.getName().equals("NONE"), true);
        }
        DUE.same(one + " fields", fields <= 20, true);
        for (Method method : one.getDeclaredMethods()) {
            DUE.same(method + " parameters", method.getParameterCount() <= 7, true);
            if (outer && Modifier.isPublic(method.getModifiers())) {
                found.add(method.getName());
            } else {
                DUE.same(method + " has a name of its own", face.contains(method.getName()), false);
                DUE.same(method + " is private", !outer || Modifier.isPrivate(method.getModifiers()), true);
            }
        }
        for (Constructor<?> constructor : one.getDeclaredConstructors()) {
            DUE.same(constructor + " is public", Modifier.isPublic(constructor.getModifiers()), outer);
        }
    }

    private static void words(String whole) {
        String text = whole.replaceAll("(?s)/\\*.*?\\*/", "").replaceAll("//[^\n]*", "");
        Matcher matcher = Pattern.compile("\\b(throw|throws|try|catch|synchronized|assert|protected|double|float|goto|Object|System\\.(?!arraycopy))\\b|->|::|\\? *>").matcher(text);
        while (matcher.find()) {
            DUE.same("the word " + matcher.group(), 1, 0);
        }
        for (int i = 0; i < whole.length(); i++) {
            DUE.same("a sign", whole.charAt(i) == '\n' || whole.charAt(i) >= 32 && whole.charAt(i) < 127, true);
        }
        Matcher methods = Pattern.compile("(?m)^( {4}| {8})(?! )[^\n;=]*\\) \\{\n(?s:.*?)^\\1\\}").matcher(whole);
        int count = 0;
        while (methods.find()) {
            count++;
            DUE.same(methods.group().split("\n")[0].trim() + " is short", methods.group().split("\n").length <= 60, true);
        }
        DUE.same("methods were seen", count > 100, true);
    }
}
