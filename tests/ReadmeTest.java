import java.io.IOException;
import java.lang.reflect.Method;
import java.lang.reflect.Modifier;
import java.net.URL;
import java.net.URLClassLoader;
import java.nio.file.Files;
import java.nio.file.Path;
import java.util.ArrayList;
import java.util.List;
import java.util.TreeSet;
import java.util.regex.Matcher;
import java.util.regex.Pattern;
import java.util.stream.Stream;
import javax.tools.JavaCompiler;
import javax.tools.ToolProvider;

/**
 * The calls that README.md shows compile, and answer what it says of them ("call;  // ANSWER: why"). Each block of
 * java there is a method of its own, but those that begin with static, which the others use. Runs in the project's
 * folder.
 */
public final class ReadmeTest {
    private static final Path README = Path.of("README.md");
    private static final Pattern TOLD = Pattern.compile("(.*;)\\s*//\\s*(-?\\d+)(?:[:,].*)?");
    private static final Pattern NAMED = Pattern.compile("\\b(?:src|tests)/[\\w/]+\\.java\\b");
    private static int wrong = 0;

    private record Block(int firstLine, List<String> lines) {
        boolean isMember() {
            return lines.get(0).startsWith("static ");
        }
    }

    public static void main(String[] args) throws Exception {
        List<String> page = Files.readAllLines(README);
        List<Block> blocks = blocksOf(page);
        allCalls(blocks);
        allAnswers(blocks);
        allFiles(String.join("\n", page));
        int answers = run(blocks);
        check(answers > 0, "no call on it tells an answer");
        System.out.println("ReadmeTest: " + answers + " answers, " + wrong + " wrong");
        if (wrong > 0) System.exit(1);
    }

    private static void check(boolean fine, String what) {
        if (!fine) {
            wrong++;
            System.out.println("README.md: " + what);
        }
    }

    private static List<Block> blocksOf(List<String> page) {
        List<Block> blocks = new ArrayList<>();
        Block open = null;
        for (int i = 0; i < page.size(); i++) {
            String line = page.get(i);
            if (line.equals("```java")) {
                open = new Block(i + 2, new ArrayList<>());
            } else if (line.startsWith("```")) {
                if (open != null && !open.lines.isEmpty()) blocks.add(open);
                open = null;
            } else if (open != null) {
                open.lines.add(line);
            }
        }
        check(open == null, "the last block has no end");
        return blocks;
    }

    // ---- what has to be on the page

    private static void allCalls(List<Block> blocks) {
        StringBuilder shown = new StringBuilder();
        for (Block b : blocks) shown.append(String.join("\n", b.lines)).append('\n');
        for (Method m : KeptPromises.class.getDeclaredMethods()) {
            boolean face = Modifier.isPublic(m.getModifiers());
            check(!face || shown.indexOf("x." + m.getName() + "(") >= 0, "it shows no call of " + m.getName());
        }
        check(shown.indexOf("KeptPromises.NONE") >= 0, "it doesn't show NONE");
    }

    /** A call without an answer would go unlooked at. */
    private static void allAnswers(List<Block> blocks) {
        for (Block b : blocks) {
            for (int i = 0; i < b.lines.size(); i++) {
                String line = b.lines.get(i);
                boolean calls = line.matches(".*\\bx\\.\\w+\\(.*") && !line.contains(" for (");
                check(!calls || TOLD.matcher(line).matches(), "line " + (b.firstLine + i) + " tells no answer");
            }
        }
    }

    /** The files that it names are there, and it names each test. */
    private static void allFiles(String page) throws IOException {
        TreeSet<String> named = new TreeSet<>();
        Matcher m = NAMED.matcher(page);
        while (m.find()) named.add(m.group());
        for (String file : named) check(Files.isReadable(Path.of(file)), "there is no " + file);
        try (Stream<Path> tests = Files.list(Path.of("tests"))) {
            for (Path test : tests.filter(p -> p.toString().endsWith("Test.java")).sorted().toList()) {
                String file = "tests/" + test.getFileName();
                check(named.contains(file), "it doesn't name " + file);
            }
        }
        check(page.contains("bash .ci/run") && Files.isExecutable(Path.of(".ci/run")), "how to run the tests");
    }

    // ---- the calls

    /** Compiles what is shown, as it is and with its answers looked at; how many answers there were. */
    private static int run(List<Block> blocks) throws Exception {
        Path folder = Files.createTempDirectory("readme");
        try {
            Path file = folder.resolve("ReadmeCalls.java");
            Files.writeString(file, "public class ReadmeCalls {\n" + CHECKER + classBody(blocks, true) + "}\n"
                + "class ReadmeShown {\n" + classBody(blocks, false) + "}\n");
            JavaCompiler javac = ToolProvider.getSystemJavaCompiler();
            check(javac != null, "no javac here to compile its calls");
            boolean compiled = javac != null && javac.run(null, System.out, System.out, "-encoding", "UTF-8",
                "-cp", System.getProperty("java.class.path"), "-d", folder.toString(), file.toString()) == 0;
            check(compiled, "its calls don't compile");
            if (!compiled) return 0;
            try (URLClassLoader loader = new URLClassLoader(new URL[] {folder.toUri().toURL()})) {
                int[] counts = (int[]) loader.loadClass("ReadmeCalls").getMethod("run").invoke(null);
                wrong += counts[1];
                return counts[0];
            }
        } finally {
            remove(folder);
        }
    }

    private static final String CHECKER = String.join("\n",
        "static int calls = 0;",
        "static int wrong = 0;",
        "static void due(int line, String call, long got, long want) {",
        "    calls++;",
        "    if (got == want) return;",
        "    wrong++;",
        "    System.out.println(\"README.md: line \" + line + \", \" + call + \" answered \" + got + \", it says \" + want);",
        "}", "");

    private static String classBody(List<Block> blocks, boolean checked) {
        StringBuilder body = new StringBuilder();
        StringBuilder runs = new StringBuilder("public static int[] run() {\n");
        for (Block b : blocks) {
            String name = "block" + b.firstLine;
            if (!b.isMember()) {
                body.append("static void ").append(name).append("() {\n");
                runs.append("    ").append(name).append("();\n");
            }
            for (int i = 0; i < b.lines.size(); i++) {
                String line = b.lines.get(i);
                body.append(checked ? checking(b.firstLine + i, line) : line).append('\n');
            }
            if (!b.isMember()) body.append("}\n");
        }
        if (checked) body.append(runs).append("    return new int[] {calls, wrong};\n}\n");
        return body.toString();
    }

    /** "call;  // 3: why" becomes a look at the call's answer. */
    private static String checking(int number, String line) {
        Matcher m = TOLD.matcher(line);
        if (!m.matches()) return line;
        String call = m.group(1).trim();
        call = call.substring(0, call.length() - 1);
        String text = call.replace("\\", "\\\\").replace("\"", "\\\"");
        return "due(" + number + ", \"" + text + "\", " + call + ", " + m.group(2) + "L);";
    }

    private static void remove(Path folder) throws IOException {
        List<Path> files;
        try (Stream<Path> found = Files.walk(folder)) {
            files = new ArrayList<>(found.toList());
        }
        for (int i = files.size() - 1; i >= 0; i--) Files.delete(files.get(i));
    }
}
