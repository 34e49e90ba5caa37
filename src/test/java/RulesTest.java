import java.lang.reflect.Constructor;
import java.lang.reflect.Field;
import java.lang.reflect.Method;
import java.lang.reflect.Modifier;
import java.nio.file.Files;
import java.nio.file.Path;
import java.util.ArrayList;
import java.util.Arrays;
import java.util.List;
import java.util.TreeSet;
import java.util.regex.Matcher;
import java.util.regex.Pattern;

/** The face of the class, and the rules of LANGUAGE.md that can be seen from outside or in the text. */
public final class RulesTest {
    private static final String[] FACE = {"declare 1", "parent 2", "plain 1", "of 3", "wild 2", "parameter 2", "array 1",
        "primitive 1", "nothing 0", "variable 0", "formula 3", "resolve 0", "clear 0", "count 1", "type 2", "bound 2",
        "instance 1", "above 2", "unchecked 1", "judge 1"};
    private static final int MOST_PARAMETERS = 7, MOST_LINES = 60, MOST_CLASSES = 12, MOST_FIELDS = 20;

    private static void face() {
        Class<?> c = InferReduce.class;
        Check.that("public and final", Modifier.isPublic(c.getModifiers()) && Modifier.isFinal(c.getModifiers()));
        TreeSet<String> due = new TreeSet<>(Arrays.asList(FACE)), got = new TreeSet<>(), names = new TreeSet<>();
        for (Method m : c.getDeclaredMethods()) {
            if (Modifier.isPrivate(m.getModifiers())) continue;
            Check.that("public: " + m, Modifier.isPublic(m.getModifiers()) && !Modifier.isStatic(m.getModifiers()));
            Check.that("answers int: " + m, m.getReturnType() == int.class);
            got.add(m.getName() + " " + m.getParameterCount());
            names.add(m.getName());
        }
        Check.that("the face " + got, due.equals(got));
        Constructor<?>[] made = c.getDeclaredConstructors();
        Check.that("one public constructor", made.length == 1 && Modifier.isPublic(made[0].getModifiers()) && made[0].getParameterCount() == 0);
        for (Field f : c.getDeclaredFields()) {
            boolean constant = Arrays.asList("NONE", "OUTSIDE", "FULL").contains(f.getName());
            Check.that("field " + f, constant ? Modifier.isPublic(f.getModifiers()) : Modifier.isPrivate(f.getModifiers()));
        }
        List<Class<?>> all = new ArrayList<>(Arrays.asList(c.getDeclaredClasses()));
        for (Class<?> inside : all) {
            Check.that("static: " + inside, Modifier.isStatic(inside.getModifiers()) && !Modifier.isPublic(inside.getModifiers()));
        }
        all.add(c);
        Check.that("not too many classes", all.size() <= MOST_CLASSES);
        for (Class<?> one : all) members(one, names);
    }

    private static void members(Class<?> one, TreeSet<String> names) {
        int fields = 0;
        for (Field f : one.getDeclaredFields()) {
            if (Modifier.isStatic(f.getModifiers())) Check.that("static is final: " + f, Modifier.isFinal(f.getModifiers()));
            else fields++;
        }
        Check.that("not too many fields: " + one, fields <= MOST_FIELDS);
        for (Method m : one.getDeclaredMethods()) {
            Check.that("not too many parameters: " + m, m.getParameterCount() <= MOST_PARAMETERS);
            boolean taken = names.contains(m.getName()) && !(one == InferReduce.class && Modifier.isPublic(m.getModifiers()));
            Check.that("no name of the face: " + m, !taken);
        }
    }

    private static void text(String source) {
        String bare = source.replaceAll("(?s)/\\*.*?\\*/", "").replaceAll("//[^\n]*", "").replaceAll("\"[^\"]*\"", "");
        String[] never = {"->", "::", "\\btry\\b", "\\bcatch\\b", "\\bfinally\\b", "\\bthrow\\b", "\\bsynchronized\\b", "\\bassert\\b",
            "\\bSystem\\b", "\\bThread\\b", "\\bObject\\b", "\\bpackage\\b", "\\bdouble\\b", "\\bfloat\\b", "\\bHash", "\\bStream"};
        for (String word : never) {
            Matcher m = Pattern.compile(word).matcher(bare);
            Check.that("no " + word + " in the text", !m.find());
        }
        Matcher imports = Pattern.compile("import ([^;]*);").matcher(bare);
        while (imports.find()) Check.due("import " + imports.group(1), 1, imports.group(1).equals("java.util.Arrays") ? 1 : 0);
        for (String line : source.split("\n")) {
            for (int i = 0; i < line.length(); i++) Check.that("characters 0 to 255", line.charAt(i) < 256);
        }
        methodsAreShort(source);
    }

    private static void methodsAreShort(String source) {
        String[] lines = source.split("\n");
        int from = -1;
        String head = "";
        for (int i = 0; i < lines.length; i++) {
            if (lines[i].matches("( {4}| {8})[A-Za-z][^=;]*\\(.*\\) \\{")) {
                from = i;
                head = lines[i];
            }
            boolean ends = from >= 0 && lines[i].equals(head.substring(0, head.length() - head.stripLeading().length()) + "}");
            if (!ends) continue;
            Check.that("short enough: " + head.strip(), i - from < MOST_LINES);
            from = -1;
        }
    }

    public static void main(String[] args) throws Exception {
        face();
        text(Files.readString(Path.of(System.getProperty("infer.source", "src/main/java/InferReduce.java"))));
        Check.end();
    }
}
