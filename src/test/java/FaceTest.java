import java.lang.reflect.Constructor;
import java.lang.reflect.Field;
import java.lang.reflect.Method;
import java.lang.reflect.Modifier;
import java.nio.file.Files;
import java.nio.file.Path;
import java.util.ArrayList;
import java.util.List;
import java.util.TreeSet;
import java.util.regex.Matcher;
import java.util.regex.Pattern;

/** The public face, and those rules of LANGUAGE.md that can be seen without much ado. */
final class FaceTest {
    public static void main(String[] args) throws Exception {
        face();
        language();
        Session.end();
    }

    private static void face() {
        Class<?> face = MacroScopes.class;
        List<String> seen = new ArrayList<>();
        for (Method method : face.getDeclaredMethods()) {
            if (!Modifier.isPrivate(method.getModifiers())) {
                seen.add(method.toString());
            }
        }
        for (Field field : face.getDeclaredFields()) {
            if (!Modifier.isPrivate(field.getModifiers())) {
                seen.add(field.toString());
            }
        }
        for (Constructor<?> constructor : face.getDeclaredConstructors()) {
            seen.add(constructor.toString());
        }
        String m = "public int MacroScopes.";
        Session.due("the face", new TreeSet<>(seen), new TreeSet<>(List.of("public MacroScopes()",
            "public static final int MacroScopes.NONE", m + "type(long,int)", m + "read()", m + "place()",
            m + "count(int)", m + "character(int)", m + "means()", m + "check()")));
        Session.due("the class", Modifier.toString(face.getModifiers()), "public final");
    }

    private static void language() throws Exception {
        String source = Files.readString(Path.of("src/main/java/MacroScopes.java"));
        String code = source.replaceAll("(?s)/\\*.*?\\*/", "").replaceAll("//.*", "").replaceAll("\"[^\"]*\"", "\"\"");
        Matcher banned = Pattern.compile("\\b(throw|throws|try|catch|synchronized|assert|package|native|volatile)\\b"
            + "|->|::|\\?\\?|Object\\b|Exact\\b|System\\.(?!arraycopy)").matcher(code);
        while (banned.find()) {
            Session.due("a word outside the language", banned.group(), "");
        }
        Matcher imports = Pattern.compile("import (.*);").matcher(code);
        while (imports.find()) {
            Session.due("import", imports.group(1), "java.util.Arrays");
        }
    }
}
