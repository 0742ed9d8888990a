import java.io.File;
import java.net.URL;
import java.net.URLClassLoader;
import java.nio.file.Files;
import java.nio.file.Path;
import java.util.ArrayList;
import java.util.List;
import java.util.TreeSet;
import java.util.regex.Matcher;
import java.util.regex.Pattern;
import java.util.stream.Stream;
import javax.tools.ToolProvider;

/** README.md: its examples answer as it says, its commands run, and its tables leave nothing out. */
public final class ReadmeTest {
    private static final Path PROGRAM = Path.of("src/main/java/FortyDips.java");
    private static final Pattern BLOCK = Pattern.compile("(?ms)^```(\\w+)\n(.*?)^```$");
    // A statement that asks one call, kept in a variable or not, and the answer that the page tells behind it.
    private static final Pattern ASKED =
            Pattern.compile("((?:int|long) \\w+ = )?(x\\.\\w+\\(.*\\));\\s+// (-?\\d+)(: .*)?");
    private static final int MOST_CALLS = 512;

    private static String page;
    private static int looked = 0;
    private static int wrong = 0;

    public static void main(String[] args) throws Exception {
        page = Files.readString(Path.of("README.md"));
        Path folder = Files.createTempDirectory("readme");
        try {
            examples(folder);
            commands(folder);
        } finally {
            remove(folder);
        }
        tests();
        program();
        namedFiles();
        System.out.println("ReadmeTest: " + looked + " things said, " + wrong + " of them not so");
        if (wrong != 0) {
            System.exit(1);
        }
    }

    private static void need(boolean holds, String what) {
        looked++;
        if (!holds) {
            wrong++;
            System.out.println(what);
        }
    }

    private static List<String> blocks(String language) {
        List<String> all = new ArrayList<>();
        Matcher m = BLOCK.matcher(page);
        while (m.find()) {
            if (m.group(1).equals(language)) {
                all.add(m.group(2));
            }
        }
        return all;
    }

    /** Called by the examples: counts an answer that is not the one that the page tells. */
    public static long due(String call, long got, long want) {
        need(got == want, "README.md: " + call + " answers " + got + ", not " + want);
        return got;
    }

    // The examples are one program: each line that tells an answer is asked for it.
    private static void examples(Path folder) throws Exception {
        StringBuilder text = new StringBuilder("public class Examples {\n    public static void run() {\n");
        int answers = 0;
        for (String block : blocks("java")) {
            for (String line : block.split("\n")) {
                Matcher m = ASKED.matcher(line);
                if (m.matches()) {
                    answers++;
                    String named = m.group(1) == null ? "" : m.group(1) + "(" + m.group(1).split(" ")[0] + ") ";
                    text.append(named).append("ReadmeTest.due(\"").append(m.group(2).replace("\"", "\\\"")).append("\", ")
                            .append(m.group(2)).append(", ").append(m.group(3)).append("L);\n");
                } else {
                    need(!line.contains("//"), "README.md tells no answer: " + line);
                    text.append(line).append('\n');
                }
            }
        }
        text.append("    }\n}\n");
        need(answers > 0 && answers <= MOST_CALLS, "README.md has " + answers + " examples");
        Path source = folder.resolve("Examples.java");
        Files.writeString(source, text);
        String known = System.getProperty("java.class.path");
        int bad = ToolProvider.getSystemJavaCompiler().run(null, null, null, "-cp", known, "-d", folder.toString(),
                source.toString());
        need(bad == 0, "the examples of README.md do not compile");
        if (bad == 0) {
            try (URLClassLoader loader = new URLClassLoader(new URL[] {folder.toUri().toURL()})) {
                loader.loadClass("Examples").getMethod("run").invoke(null);
            }
        }
    }

    // In a copy of the project, so that what they make is gone with it. '.ci/run' is what runs this test: it would
    // never end if this test ran it.
    private static void commands(Path folder) throws Exception {
        Path copy = folder.resolve("copy");
        copy(Path.of("src"), copy.resolve("src"));
        List<String> all = blocks("sh");
        need(all.size() > 1 && all.contains(".ci/run\n"), "README.md does not tell how to run its tests");
        File script = new File(".ci/run");
        need(script.isFile() && script.canExecute(), ".ci/run can't be run");
        for (String block : all) {
            if (block.equals(".ci/run\n")) {
                continue;
            }
            Process shell = new ProcessBuilder("sh", "-e", "-c", block).directory(copy.toFile())
                    .redirectErrorStream(true).start();
            String said = new String(shell.getInputStream().readAllBytes());
            need(shell.waitFor() == 0, "the commands of README.md fail:\n" + block + said);
        }
    }

    private static void copy(Path from, Path to) throws Exception {
        try (Stream<Path> all = Files.walk(from)) {
            for (Path file : (Iterable<Path>) all::iterator) {
                Path target = to.resolve(from.relativize(file));
                if (Files.isDirectory(file)) {
                    Files.createDirectories(target);
                } else {
                    Files.copy(file, target);
                }
            }
        }
    }

    private static void remove(Path folder) throws Exception {
        List<Path> all;
        try (Stream<Path> walked = Files.walk(folder)) {
            all = walked.toList();
        }
        for (int i = all.size() - 1; i >= 0; i--) {
            Files.delete(all.get(i));
        }
    }

    private static void tests() throws Exception {
        TreeSet<String> told = new TreeSet<>();
        Matcher row = Pattern.compile("(?m)^\\| ((?:\\w+Test(?:, )?)+) \\|").matcher(page);
        while (row.find()) {
            told.addAll(List.of(row.group(1).split(", ")));
        }
        TreeSet<String> there = new TreeSet<>();
        try (Stream<Path> files = Files.list(Path.of("src/test/java"))) {
            for (Path file : (Iterable<Path>) files::iterator) {
                String name = file.getFileName().toString().replace(".java", "");
                if (name.endsWith("Test")) {
                    there.add(name);
                } else {
                    need(page.contains("`" + name + "`"), "README.md does not name " + name);
                }
            }
        }
        need(told.equals(there), "README.md tells of the tests " + told + ", there are " + there);
        String lots = Files.readString(Path.of("src/test/java/RandomTest.java"));
        Matcher runs = Pattern.compile("(\\d+) runs of (\\d+) calls").matcher(page);
        need(runs.find() && lots.contains("(\"runs\", " + runs.group(1) + ")")
                && lots.contains("CALLS = " + runs.group(2) + ";"), "RandomTest has not so many runs as README.md says");
    }

    private static void program() throws Exception {
        String program = Files.readString(PROGRAM);
        Matcher finding = Pattern.compile("int ([A-Z]+) = (-10000000\\d\\d);").matcher(program);
        int found = 0;
        while (finding.find()) {
            String start = "| " + finding.group(2) + " | " + finding.group(1) + ": ";
            need(Pattern.compile("(?m)^" + Pattern.quote(start) + "[^|]* \\| " + found + " \\|$").matcher(page).find(),
                    "README.md does not tell of " + finding.group(1));
            found++;
        }
        need(found == 7, "the program has " + found + " findings");
        Matcher imported = Pattern.compile("(?m)^import (.*);").matcher(program);
        while (imported.find()) {
            need(page.contains("nothing but `" + imported.group(1) + "`"), "it imports " + imported.group(1));
        }
    }

    private static void namedFiles() {
        Matcher m = Pattern.compile("`((?:\\.\\./|src/)[\\w./]+)`").matcher(page);
        while (m.find()) {
            need(Files.exists(Path.of(m.group(1))), "README.md names " + m.group(1) + ", which is not there");
        }
    }
}
