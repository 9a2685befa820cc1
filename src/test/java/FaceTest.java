import java.lang.reflect.Constructor;
import java.lang.reflect.Field;
import java.lang.reflect.Method;
import java.lang.reflect.Modifier;
import java.nio.file.Files;
import java.nio.file.Path;
import java.util.ArrayList;
import java.util.List;
import java.util.TreeSet;
import java.util.regex.Matcher;
import java.util.regex.Pattern;

/** The public face, and those rules of LANGUAGE.md that can be seen without much ado. */
final class FaceTest {
    private static final Path SOURCE = Path.of("src/main/java/MacroScopes.java");
    private static final List<String> FACE = List.of("type", "read", "place", "count", "character", "means", "check");
    private static final List<Class<?>> CONSTANTS = List.of(int.class, long.class, boolean.class, char.class, String.class,
        int[].class, long[].class, char[].class, byte[].class);

    public static void main(String[] args) throws Exception {
        face();
        language();
        classes();
        lengths();
        Session.end();
    }

    private static void face() {
        Class<?> face = MacroScopes.class;
        List<String> seen = new ArrayList<>();
        for (Method method : face.getDeclaredMethods()) {
            if (!Modifier.isPrivate(method.getModifiers())) {
                seen.add(method.toString());
            }
        }
        for (Field field : face.getDeclaredFields()) {
            if (!Modifier.isPrivate(field.getModifiers())) {
                seen.add(field.toString());
            }
        }
        for (Constructor<?> constructor : face.getDeclaredConstructors()) {
            seen.add(constructor.toString());
        }
        String m = "public int MacroScopes.";
        Session.due("the face", new TreeSet<>(seen), new TreeSet<>(List.of("public MacroScopes()",
            "public static final int MacroScopes.NONE", m + "type(long,int)", m + "read()", m + "place()",
            m + "count(int)", m + "character(int)", m + "means()", m + "check()")));
        Session.due("the class", Modifier.toString(face.getModifiers()), "public final");
    }

    private static void language() throws Exception {
        String source = Files.readString(SOURCE);
        String code = source.replaceAll("(?s)/\\*.*?\\*/", "").replaceAll("//.*", "").replaceAll("\"[^\"]*\"", "\"\"");
        Matcher banned = Pattern.compile("\\b(throw|throws|try|catch|synchronized|assert|package|native|volatile)\\b"
            + "|->|::|\\?\\?|Object\\b|Exact\\b|System\\.(?!arraycopy)").matcher(code);
        while (banned.find()) {
            Session.due("a word outside the language", banned.group(), "");
        }
        Matcher imports = Pattern.compile("import (.*);").matcher(code);
        while (imports.find()) {
            Session.due("import", imports.group(1), "java.util.Arrays");
        }
    }

    /** Rules 1, 2, 5 and 11. */
    private static void classes() {
        List<Class<?>> all = new ArrayList<>(List.of(MacroScopes.class.getDeclaredClasses()));
        for (Class<?> inside : all) {
            Session.due(inside + " is static", Modifier.isStatic(inside.getModifiers()), true);
            Session.due(inside + " has classes inside", inside.getDeclaredClasses().length, 0);
            Session.due(inside + " is public", Modifier.isPublic(inside.getModifiers()), false);
        }
        all.add(MacroScopes.class);
        Session.due("at most 12 classes (" + all.size() + ")", all.size() <= 12, true);
        for (Class<?> one : all) {
            fields(one);
            for (Method method : one.getDeclaredMethods()) {
                Session.due(method + " takes at most seven", method.getParameterCount() <= 7, true);
                Session.due(method + " bears a name of the face", FACE.contains(method.getName()),
                    one == MacroScopes.class && Modifier.isPublic(method.getModifiers()));
            }
        }
    }

    private static void fields(Class<?> one) {
        int own = 0;
        for (Field field : one.getDeclaredFields()) {
            if (Modifier.isStatic(field.getModifiers())) {
                Session.due(field + " is final", Modifier.isFinal(field.getModifiers()), true);
                Session.due(field + " is a constant", CONSTANTS.contains(field.getType()), true);
            } else {
                own++;
            }
        }
        Session.due(one + " has at most 20 fields (" + own + ")", own <= 20, true);
    }

    /** Rule 11: a method, from the line that opens it to the one that closes it, has some sixty lines. */
    private static void lengths() throws Exception {
        int opened = 0;
        int number = 0;
        for (String line : Files.readAllLines(SOURCE)) {
            number++;
            if (line.matches(" {4}( {4})?[a-z].*\\) \\{")) {
                opened = number;
            } else if (line.matches(" {4}( {4})?\\}")) {
                Session.due("the method at line " + opened + " is short", number - opened < 60, true);
                opened = number;
            }
        }
    }
}
