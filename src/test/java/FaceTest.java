import java.lang.reflect.Constructor;
import java.lang.reflect.Field;
import java.lang.reflect.Method;
import java.lang.reflect.Modifier;
import java.nio.file.Files;
import java.nio.file.Path;
import java.util.ArrayList;
import java.util.List;
import java.util.TreeSet;
import java.util.regex.Matcher;
import java.util.regex.Pattern;

/** The public face, and what of ../shared/LANGUAGE.md can be seen from the class and its text. */
public final class FaceTest {
    private static final Path PROGRAM = Path.of("src/main/java/FortyDips.java");
    private static final String FACE = """
        int vatOf(int, int)
        int vat(int, int, int)
        int let(int, int)
        int candle(int)
        int of(int, int)
        int layer(int, int)
        int turn(int, int)
        int as(int, int)
        int takes(int, int)
        int dip(int, int)
        int melt(int, int)
        int burn(int, int)
        int hours(int)
        int now(int)
        int warm(int, int)
        int when(int, int)
        int takesIn(int, int, int)
        int burns(int, int, int)
        int fewest(int, int)
        int ith(int, int, int)
        int ways(int, int, int)
        int most(int, int)
        int best(int)
        int kind(int, int, int)
        int fires(int, int)
        int enough(int)
        int feed(int, int)
        int wipe()
        int text()
        int sheet(int, int, int)
        long write(int, int, long)
        int copy(int, int, int, int, int)
        int lays(int, int)
        int show(int, int)
        int read(int, int)
        int image()
        int undo()
        int tear()
        int count(int)
        int status(int)
        """;
    private static int wrong = 0;

    public static void main(String[] args) throws Exception {
        face();
        classesInside();
        words();
        rowsAreMadeOnce();
        System.out.println("FaceTest: " + wrong + " faults");
        if (wrong != 0) {
            System.exit(1);
        }
    }

    private static void need(boolean holds, String what) {
        if (!holds) {
            wrong++;
            System.out.println(what);
        }
    }

    private static String told(Method m) {
        List<String> types = new ArrayList<>();
        for (Class<?> type : m.getParameterTypes()) {
            types.add(type.getName());
        }
        return m.getReturnType().getName() + " " + m.getName() + "(" + String.join(", ", types) + ")";
    }

    private static void face() {
        int modifiers = FortyDips.class.getModifiers();
        need(Modifier.isPublic(modifiers) && Modifier.isFinal(modifiers), "the class is not public and final");
        TreeSet<String> due = new TreeSet<>(List.of(FACE.split("\n")));
        TreeSet<String> there = new TreeSet<>();
        for (Method m : FortyDips.class.getDeclaredMethods()) {
            if (Modifier.isPublic(m.getModifiers())) {
                there.add(told(m));
                need(!Modifier.isStatic(m.getModifiers()), "static: " + told(m));
            } else {
                need(Modifier.isPrivate(m.getModifiers()), "neither public nor private: " + told(m));
            }
        }
        need(due.equals(there), "the face is " + there);
        Constructor<?>[] made = FortyDips.class.getDeclaredConstructors();
        need(made.length == 1 && made[0].getParameterCount() == 0 && Modifier.isPublic(made[0].getModifiers()),
                "not one public constructor without arguments");
        for (Field f : FortyDips.class.getDeclaredFields()) {
            need(Modifier.isPrivate(f.getModifiers()), "not private: " + f.getName());
            need(!Modifier.isStatic(f.getModifiers()) || Modifier.isFinal(f.getModifiers()),
                    "static and not final: " + f.getName());
        }
    }

    private static void classesInside() {
        TreeSet<String> names = new TreeSet<>();
        for (String line : FACE.split("\n")) {
            names.add(line.substring(line.indexOf(' ') + 1, line.indexOf('(')));
        }
        Class<?>[] inside = FortyDips.class.getDeclaredClasses();
        need(inside.length < 12, "too many classes");
        for (Class<?> c : inside) {
            need(Modifier.isStatic(c.getModifiers()), "not static: " + c.getName());
            for (Method m : c.getDeclaredMethods()) {
                need(!names.contains(m.getName()), "the name of a public method: " + c.getName() + "." + m.getName());
            }
            need(c.getDeclaredFields().length <= 20, "too many fields: " + c.getName());
        }
    }

    private static String withoutComments() throws Exception {
        return Files.readString(PROGRAM).replaceAll("(?s)/\\*.*?\\*/", "").replaceAll("//[^\n]*", "");
    }

    private static void words() throws Exception {
        String text = withoutComments();
        for (String word : List.of("throw", "throws", "try", "catch", "finally", "synchronized", "assert", "package",
                "native", "protected", "Object", "Math\\.\\w+Exact", "System\\.(?!arraycopy)\\w+", "->", "::")) {
            Matcher m = Pattern.compile(word.matches("\\w.*") ? "\\b" + word + "\\b" : word).matcher(text);
            need(!m.find(), "it has: " + word);
        }
        Matcher imports = Pattern.compile("import ([^;]*);").matcher(text);
        while (imports.find()) {
            need(imports.group(1).equals("java.util.Arrays"), "it imports " + imports.group(1));
        }
        need(text.chars().allMatch(c -> c < 128), "signs above 127");
    }

    /** All calls of a run share one room: only a constructor may make an object. */
    private static void rowsAreMadeOnce() throws Exception {
        String method = "";
        for (String line : withoutComments().split("\n")) {
            if (line.matches("    (    )?\\S.*\\) \\{") && !line.matches(" *(for|if|while|switch|\\}).*")) {
                method = line.trim();
            }
            boolean constructor = method.matches("(public )?[A-Z]\\w*\\(.*");
            need(!line.matches(".*\\bnew [A-Za-z].*") || constructor, "an object made in " + method);
        }
    }
}
