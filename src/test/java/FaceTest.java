import java.io.IOException;
import java.lang.reflect.Constructor;
import java.lang.reflect.Field;
import java.lang.reflect.Method;
import java.lang.reflect.Modifier;
import java.nio.file.Files;
import java.nio.file.Path;
import java.util.ArrayList;
import java.util.Arrays;
import java.util.List;
import java.util.TreeSet;
import java.util.regex.Matcher;
import java.util.regex.Pattern;

/** The document's face and no more, and those rules of LANGUAGE.md that can be seen from outside or in the source. */
public final class FaceTest {
    private static final String[] FACE = {
        "int feed(int,int,int,int,int)",
        "int house(int) throws IllegalArgumentException",
        "int law(int) throws IllegalArgumentException",
        "int work(int) throws IllegalArgumentException",
        "int book(int) throws IllegalArgumentException",
        "int fault()",
        "int undo()",
        "int told(int) throws IllegalArgumentException",
        "int piece(int,int) throws NoSuchElementException,IllegalArgumentException",
        "int collar(int,int) throws NoSuchElementException,IllegalArgumentException",
        "int fire(int,int) throws NoSuchElementException,IllegalArgumentException",
        "int row(int) throws IllegalArgumentException",
        "int behind(int) throws IllegalArgumentException",
        "int would(int,int,int,int,int,int,int,int,int) throws IllegalArgumentException",
        "boolean fits(int,int) throws IllegalArgumentException",
        "boolean can(int) throws NoSuchElementException",
        "int ahead(int) throws IllegalArgumentException",
        "int chain(int) throws IllegalArgumentException",
        "int chained(int) throws IllegalArgumentException",
        "int brief(int) throws NoSuchElementException",
        "int briefly(int,int) throws NoSuchElementException,IllegalArgumentException",
        "int joiner(int) throws IllegalArgumentException",
        "int leaks(int) throws IllegalArgumentException",
        "int look(int) throws IllegalArgumentException",
        "int wed()",
        "long sure(int,int,int) throws NoSuchElementException,IllegalArgumentException",
        "int street(int,int,int) throws IllegalArgumentException",
        "int share(int,int,int) throws NoSuchElementException,IllegalArgumentException",
        "int next(int) throws IllegalArgumentException",
        "int worst(int) throws IllegalArgumentException",
        "int needed(int) throws NoSuchElementException",
        "int kin(int) throws IllegalArgumentException",
        "int year(int,int,int,int) throws IllegalArgumentException",
        "int span(int,int,int,int,int,int) throws IllegalArgumentException",
        "int image()",
        "int restore()",
        "int status(int)",
        "int count(int)",
    };
    private static final String[] FORBIDDEN = {
        "->", "::", "\\w+Exact\\b", "\\bfinally\\b", "\\bsynchronized\\b", "\\bassert\\b", "\\btry\\b", "\\bcatch\\b",
        "\\bSystem\\.(?!arraycopy)", "\\bMath\\.(?!min|max)", "\\bHash\\w+", "\\bObject\\b", "\\bstatic\\s*\\{",
        "\"\\s*\\+", "\\+\\s*\"", "\\bhashCode\\b", "\\btoString\\b",
    };
    private static int wrong;

    private static void due(String what, boolean holds) {
        if (!holds) {
            wrong++;
            System.out.println(what);
        }
    }

    private static String told(Method m) {
        List<String> parameters = new ArrayList<>();
        for (Class<?> p : m.getParameterTypes()) {
            parameters.add(p.getSimpleName());
        }
        List<String> thrown = new ArrayList<>();
        for (Class<?> e : m.getExceptionTypes()) {
            thrown.add(e.getSimpleName());
        }
        return m.getReturnType().getSimpleName() + " " + m.getName() + "(" + String.join(",", parameters) + ")"
            + (thrown.isEmpty() ? "" : " throws " + String.join(",", thrown));
    }

    private static TreeSet<String> face(Class<?> type) throws IllegalAccessException {
        due("the class is public and final", Modifier.isPublic(type.getModifiers()) && Modifier.isFinal(type.getModifiers()));
        TreeSet<String> names = new TreeSet<>();
        TreeSet<String> found = new TreeSet<>();
        for (Method m : type.getDeclaredMethods()) {
            if (m.isSynthetic()) {
                continue;
            }
            if (Modifier.isPublic(m.getModifiers())) {
                due("a static method on the face: " + m.getName(), !Modifier.isStatic(m.getModifiers()));
                names.add(m.getName());
                found.add(told(m));
            } else {
                due("neither public nor private: " + m.getName(), Modifier.isPrivate(m.getModifiers()));
            }
        }
        due("the face is " + found, found.equals(new TreeSet<>(Arrays.asList(FACE))));
        for (Field f : type.getDeclaredFields()) {
            if (!Modifier.isPrivate(f.getModifiers())) {
                due("a field on the face: " + f.getName(), f.getName().equals("NONE") && f.getInt(null) == -1
                    && f.getModifiers() == (Modifier.PUBLIC | Modifier.STATIC | Modifier.FINAL));
            }
        }
        Constructor<?>[] made = type.getDeclaredConstructors();
        due("one public constructor", made.length == 1 && Modifier.isPublic(made[0].getModifiers())
            && made[0].getParameterCount() == 0);
        return names;
    }

    private static void classes(TreeSet<String> names) {
        List<Class<?>> all = new ArrayList<>(List.of(HoseDynasty.class.getDeclaredClasses()));
        for (Class<?> c : all) {
            due("a class inside that is not static: " + c, Modifier.isStatic(c.getModifiers()));
            due("a class inside that can be seen: " + c, !Modifier.isPublic(c.getModifiers()) && !Modifier.isProtected(c.getModifiers()));
            due("a class within a class inside: " + c, c.getDeclaredClasses().length == 0);
        }
        all.add(HoseDynasty.class);
        due("more than twelve classes", all.size() <= 12);
        for (Class<?> c : all) {
            int fields = 0;
            for (Field f : c.getDeclaredFields()) {
                if (!Modifier.isStatic(f.getModifiers())) {
                    fields++;
                } else {
                    due("static state: " + f, f.isSynthetic() || Modifier.isFinal(f.getModifiers()));
                }
            }
            due("more than twenty fields: " + c, fields <= 20);
            for (Method m : c.getDeclaredMethods()) {
                boolean onFace = c == HoseDynasty.class && Modifier.isPublic(m.getModifiers());
                due("more than seven parameters: " + m, m.getParameterCount() <= 7 || m.getName().equals("would"));
                due("bears the name of a public one: " + m, onFace || m.isSynthetic() || !names.contains(m.getName()));
            }
        }
    }

    private static void source(Path path) throws IOException {
        String text = Files.readString(path);
        for (char c : text.toCharArray()) {
            due("a sign beyond 127", c < 128);
        }
        String bare = text.replaceAll("(?s)/\\*.*?\\*/", "").replaceAll("//[^\n]*", "");
        for (String pattern : FORBIDDEN) {
            Matcher m = Pattern.compile(pattern).matcher(bare);
            due("the source has " + pattern, !m.find());
        }
        Matcher imports = Pattern.compile("import ([^;]+);").matcher(bare);
        while (imports.find()) {
            due("an import: " + imports.group(1), imports.group(1).equals("java.util.Arrays")
                || imports.group(1).equals("java.util.NoSuchElementException"));
        }
        int from = 0;
        String[] lines = text.split("\n");
        for (int i = 0; i < lines.length; i++) {
            if (lines[i].matches("( {4}| {8})[a-zA-Z].*\\{") && !lines[i].contains(" class ")) {
                from = i;
            }
            if (lines[i].matches("( {4}| {8})\\}")) {
                due("a method of more than sixty lines at " + from, i - from < 60);
            }
        }
    }

    public static void main(String[] args) throws Exception {
        classes(face(HoseDynasty.class));
        source(Path.of("src/main/java/HoseDynasty.java"));
        System.out.println(wrong == 0 ? "the face is as told" : wrong + " things are not as told");
        if (wrong != 0) {
            System.exit(1);
        }
    }
}
