import java.io.IOException;
import java.lang.reflect.Constructor;
import java.lang.reflect.Field;
import java.lang.reflect.Method;
import java.lang.reflect.Modifier;
import java.nio.file.Files;
import java.nio.file.Path;
import java.util.ArrayList;
import java.util.List;
import java.util.Set;
import java.util.TreeSet;
import java.util.regex.Matcher;
import java.util.regex.Pattern;

/** The face of the class is the document's, and its file keeps to those rules of LANGUAGE.md that words show. */
public final class FaceTest {
    private static final Path DOC = Path.of("../shared/DOC.md");
    private static final Path FILE = Path.of("src/main/java/FarDishes.java");
    private static final Due T = new Due();

    public static void main(String[] args) throws IOException {
        Set<String> due = faceOfDocument();
        T.due("calls of the document and the constructor", due.size(), 47);
        T.due("the face is the document's: missing or too many", differ(due, face()), 0);
        T.due("the class is public and final", FarDishes.class.getModifiers(), Modifier.PUBLIC | Modifier.FINAL);
        T.due("members that are neither private nor of the face", open(), 0);
        T.due("private methods with the name of a public one", sameNames(), 0);
        T.due("static fields that aren't final", loose(FarDishes.class), 0);
        for (Class<?> c : FarDishes.class.getDeclaredClasses()) {
            T.due(c.getName() + " is private or package-visible, and static",
                c.getModifiers() & (Modifier.PUBLIC | Modifier.PROTECTED | Modifier.STATIC), Modifier.STATIC);
            T.due(c.getName() + ": static fields that aren't final", loose(c), 0);
            T.due(c.getName() + ": fields beside constants", Math.max(20, variables(c)), 20);
        }
        T.due("classes", Math.max(12, FarDishes.class.getDeclaredClasses().length + 1), 12);
        words();
        T.end();
    }

    private static Set<String> faceOfDocument() throws IOException {
        Set<String> face = new TreeSet<>();
        Matcher m = Pattern.compile("^    public (?:int )?(\\w+)\\(([^)]*)\\);$", Pattern.MULTILINE).matcher(Files.readString(DOC));
        while (m.find()) {
            List<String> types = new ArrayList<>();
            for (String part : m.group(2).split(", ")) {
                if (!part.isEmpty()) {
                    types.add(part.split(" ")[0]);
                }
            }
            face.add(m.group(1) + types);
        }
        return face;
    }

    private static Set<String> face() {
        Set<String> face = new TreeSet<>();
        for (Method m : FarDishes.class.getDeclaredMethods()) {
            if (Modifier.isPublic(m.getModifiers())) {
                face.add(m.getName() + names(m.getParameterTypes()));
                T.due(m + " answers an int", m.getReturnType() == int.class ? 1 : 0, 1);
            }
        }
        for (Constructor<?> c : FarDishes.class.getDeclaredConstructors()) {
            if (Modifier.isPublic(c.getModifiers())) {
                face.add("FarDishes" + names(c.getParameterTypes()));
            }
        }
        return face;
    }

    private static List<String> names(Class<?>[] types) {
        List<String> names = new ArrayList<>();
        for (Class<?> type : types) {
            names.add(type.getName());
        }
        return names;
    }

    private static int differ(Set<String> a, Set<String> b) {
        Set<String> all = new TreeSet<>(a);
        all.addAll(b);
        Set<String> both = new TreeSet<>(a);
        both.retainAll(b);
        all.removeAll(both);
        if (!all.isEmpty()) {
            System.out.println(all);
        }
        return all.size();
    }

    private static int open() {
        int open = 0;
        for (Method m : FarDishes.class.getDeclaredMethods()) {
            open += (m.getModifiers() & (Modifier.PUBLIC | Modifier.PRIVATE)) == 0 ? 1 : 0;
        }
        for (Field f : FarDishes.class.getDeclaredFields()) {
            open += Modifier.isPrivate(f.getModifiers()) ? 0 : 1;
        }
        return open;
    }

    private static int sameNames() {
        Set<String> open = new TreeSet<>();
        for (Method m : FarDishes.class.getDeclaredMethods()) {
            if (Modifier.isPublic(m.getModifiers())) {
                open.add(m.getName());
            }
        }
        int same = 0;
        for (Method m : FarDishes.class.getDeclaredMethods()) {
            same += Modifier.isPrivate(m.getModifiers()) && open.contains(m.getName()) ? 1 : 0;
        }
        for (Class<?> c : FarDishes.class.getDeclaredClasses()) {
            for (Method m : c.getDeclaredMethods()) {
                same += open.contains(m.getName()) ? 1 : 0;
            }
        }
        return same;
    }

    private static int loose(Class<?> c) {
        int loose = 0;
        for (Field f : c.getDeclaredFields()) {
            loose += Modifier.isStatic(f.getModifiers()) && !Modifier.isFinal(f.getModifiers()) ? 1 : 0;
        }
        return loose;
    }

    private static int variables(Class<?> c) {
        int variables = 0;
        for (Field f : c.getDeclaredFields()) {
            variables += Modifier.isStatic(f.getModifiers()) ? 0 : 1;
        }
        return variables;
    }

    private static void words() throws IOException {
        String file = Files.readString(FILE);
        for (int i = 0; i < file.length(); i++) {
            if (file.charAt(i) > 126) {
                T.due("sign " + i + " of the file", file.charAt(i), ' ');
            }
        }
        String code = file.replaceAll("(?s)/\\*.*?\\*/", "").replaceAll("//[^\n]*", "").replaceAll("\"[^\"\n]*\"", "\"\"");
        String[] never = {"\\bimport\\b", "\\bpackage\\b", "\\bthrow", "\\btry\\b", "\\bcatch\\b", "\\bsynchronized\\b",
            "\\bassert\\b", "->", "::", "\\bnative\\b", "\\bvolatile\\b", "\\bSystem\\.(?!arraycopy)", "\\bMath\\.\\w+Exact",
            "@\\w+", "\\bprotected\\b", "\\bvar\\b", "\\bdouble\\b", "\\bfloat\\b"};
        for (String n : never) {
            T.due(n + " stands in the file", Pattern.compile(n).matcher(code).find() ? 1 : 0, 0);
        }
        methodsAreShort(code);
    }

    private static void methodsAreShort(String code) {
        String[] lines = code.split("\n");
        int begin = -1;
        for (int i = 0; i < lines.length; i++) {
            boolean head = lines[i].matches("( {4}| {8})(?!if |for |while |switch |do |\\} else)(?!.*\\b(class|new)\\b)\\S.*\\) \\{");
            if (head) {
                begin = i;
                T.due(lines[i].trim() + ": parameters", Math.max(7, lines[i].split(",").length), 7);
            } else if (begin >= 0 && lines[i].matches("( {4}| {8})\\}")) {
                T.due(lines[begin].trim() + ": lines", Math.max(60, i - begin + 1), 60);
                begin = -1;
            }
        }
    }
}
