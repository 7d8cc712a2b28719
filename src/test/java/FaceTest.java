import java.lang.reflect.Constructor;
import java.lang.reflect.Field;
import java.lang.reflect.Method;
import java.lang.reflect.Modifier;
import java.nio.file.Files;
import java.nio.file.Path;
import java.util.Arrays;
import java.util.TreeSet;
import java.util.regex.Matcher;
import java.util.regex.Pattern;

/** The document's face, with its throws clauses, and the rules of LANGUAGE.md that a text can show. */
public final class FaceTest {
    private static final String ARGUMENT = "IllegalArgumentException";
    private static final String STATE = "IllegalStateException";
    private static final String INDEX = "IndexOutOfBoundsException";

    public static void main(String[] args) throws Exception {
        face();
        nothingElseIsVisible();
        source();
        Check.end("FaceTest");
    }

    private static void face() throws Exception {
        Class<?> i = int.class;
        Class<?> b = boolean.class;
        method("declare", new String[] {ARGUMENT, STATE}, i, i, i, b, i);
        method("store", new String[] {ARGUMENT, STATE}, i, i);
        method("modify", new String[] {ARGUMENT, STATE}, i);
        method("erase", new String[] {ARGUMENT, STATE}, i);
        method("connect", new String[] {INDEX, STATE}, i);
        method("disconnect", new String[] {INDEX, STATE}, i);
        method("reconnect", new String[] {INDEX, STATE}, i, i);
        method("find", new String[] {}, i);
        method("findOf", new String[] {ARGUMENT}, i, b);
        method("findEnd", new String[] {INDEX}, i, b);
        method("findNext", new String[] {INDEX}, i, b);
        method("findOwner", new String[] {INDEX}, i);
        method("findValue", new String[] {INDEX}, i, i);
        method("setTypes", new String[] {});
        method("records", new String[] {});
        method("current", new String[] {});
        method("currentOf", new String[] {ARGUMENT}, i);
        method("currentIn", new String[] {INDEX}, i);
        method("typeOf", new String[] {INDEX}, i);
        method("valueOf", new String[] {INDEX}, i);
        method("ownerOf", new String[] {INDEX}, i, i);
        method("members", new String[] {INDEX}, i, i);
        method("membersByTable", new String[] {INDEX}, i, i);
        method("memberAt", new String[] {INDEX}, i, i, i);
        method("wouldErase", new String[] {INDEX, ARGUMENT}, i, i);
    }

    private static void method(String name, String[] exceptions, Class<?>... parameters) throws Exception {
        Method method = NetworkDatabase.class.getDeclaredMethod(name, parameters);
        Check.equal(name + " modifiers", "public", Modifier.toString(method.getModifiers()));
        Check.equal(name + " type", "int", method.getReturnType().getSimpleName());
        StringBuilder thrown = new StringBuilder();
        for (Class<?> exception : method.getExceptionTypes()) {
            thrown.append(exception.getSimpleName()).append(' ');
        }
        Check.equal(name + " throws", String.join(" ", exceptions), thrown.toString().trim());
    }

    private static void nothingElseIsVisible() {
        Class<?> face = NetworkDatabase.class;
        Check.equal("class", "public final", Modifier.toString(face.getModifiers()));
        Check.equal("package", "", face.getPackageName());
        int visible = 0;
        TreeSet<String> names = new TreeSet<>();
        for (Method method : face.getDeclaredMethods()) {
            visible += Modifier.isPrivate(method.getModifiers()) ? 0 : 1;
            if (Modifier.isPublic(method.getModifiers())) {
                names.add(method.getName());
            }
        }
        Check.equal("visible methods", "25", String.valueOf(visible));
        Check.equal("names of the face", "25", String.valueOf(names.size()));
        for (Field field : face.getDeclaredFields()) {
            Check.equal(field.getName() + " is private", "true", String.valueOf(Modifier.isPrivate(field.getModifiers())));
        }
        Constructor<?>[] constructors = face.getDeclaredConstructors();
        Check.equal("constructors", "1", String.valueOf(constructors.length));
        Check.equal("constructor", "public NetworkDatabase()", constructors[0].toString());
        for (Class<?> inside : face.getDeclaredClasses()) {
            for (Method method : inside.getDeclaredMethods()) {
                Check.equal(method + " bears no name of the face", "false", String.valueOf(names.contains(method.getName())));
            }
        }
    }

    private static void source() throws Exception {
        String text = Files.readString(Path.of("src/main/java/NetworkDatabase.java"));
        String code = text.replaceAll("(?s)/\\*.*?\\*/", "").replaceAll("//[^\n]*", "").replaceAll("\"[^\"\n]*\"", "\"\"");
        String[] ruledOut = {
            "\\bpackage\\b", "\\btry\\b", "\\bcatch\\b", "\\bfinally\\b", "\\bassert\\b", "\\bsynchronized\\b", "->", "::",
            "\\binstanceof\\b", "\\bprotected\\b", "Exact\\(", "\"\\s*\\+", "\\+\\s*\"", "\\bSystem\\b", "\\bRandom\\b", "\\bThread\\b",
            "\\bequals\\(", "\\bhashCode\\b", "\\btoString\\b", "\\bnull\\b", "for \\([^;)]*:", "while \\(true\\)"};
        for (String pattern : ruledOut) {
            Check.equal("the source holds " + pattern, "false", String.valueOf(Pattern.compile(pattern).matcher(code).find()));
        }
        Matcher imports = Pattern.compile("import ([\\w.*]+);").matcher(code);
        TreeSet<String> imported = new TreeSet<>();
        while (imports.find()) {
            imported.add(imports.group(1));
        }
        imported.removeAll(Arrays.asList("java.util.ArrayList", "java.util.Arrays"));
        Check.equal("other imports", "[]", imported.toString());
        Check.equal("text is plain", "true", String.valueOf(text.chars().allMatch(c -> c < 127)));
    }
}
