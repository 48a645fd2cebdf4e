import java.io.IOException;
import java.lang.reflect.Constructor;
import java.lang.reflect.Field;
import java.lang.reflect.Method;
import java.lang.reflect.Modifier;
import java.nio.charset.StandardCharsets;
import java.nio.file.Files;
import java.nio.file.Path;
import java.util.List;
import java.util.Set;
import java.util.TreeSet;

/** What of LANGUAGE.md can be seen from the class and its text. Runs in the project's folder. */
public final class LanguageTest {
    private static final Set<String> FACE = Set.of("row", "set", "copy", "element", "put", "holds", "says",
        "promise", "fault", "promiseOf", "hands", "known", "turn", "swap", "can", "hour", "all", "begin", "trap",
        "quarrel", "dear", "fewest", "ends", "must", "spare", "doomed", "give", "many", "ring", "opening", "judge",
        "lost", "owed", "work", "debt", "mend", "act", "trace", "image", "restore", "status");
    private static int wrong = 0;

    private static void check(boolean fine, String what) {
        if (!fine) {
            wrong++;
            System.out.println("LANGUAGE: " + what);
        }
    }

    public static void main(String[] args) throws IOException {
        face();
        for (Class<?> c : KeptPromises.class.getDeclaredClasses()) inside(c);
        text(Files.readAllLines(Path.of("src/main/java/KeptPromises.java"), StandardCharsets.US_ASCII));
        System.out.println("LanguageTest: " + wrong + " wrong");
        if (wrong > 0) System.exit(1);
    }

    private static void face() {
        Class<?> c = KeptPromises.class;
        check(Modifier.isPublic(c.getModifiers()) && Modifier.isFinal(c.getModifiers()), "rule 1: public, final");
        Set<String> open = new TreeSet<>();
        for (Method m : c.getDeclaredMethods()) {
            if (Modifier.isPublic(m.getModifiers())) {
                check(open.add(m.getName()), "rule 1: twice " + m.getName());
                check(FACE.contains(m.getName()), "rule 1: not of the face: " + m.getName());
            }
        }
        check(open.equals(new TreeSet<>(FACE)), "rule 1: the face is " + open);
        for (Field f : c.getDeclaredFields()) {
            check(Modifier.isPrivate(f.getModifiers()) || f.getName().equals("NONE"), "rule 1: field " + f.getName());
        }
        check(c.getDeclaredConstructors().length == 1, "rule 1: one constructor");
        check(c.getDeclaredClasses().length <= 12, "rule 11: some twelve classes");
        both(c);
    }

    private static void inside(Class<?> c) {
        check(Modifier.isStatic(c.getModifiers()), "rule 2: static " + c);
        for (Method m : c.getDeclaredMethods()) {
            check(Modifier.isPrivate(m.getModifiers()), "rule 1: " + c + " " + m.getName());
        }
        for (Field f : c.getDeclaredFields()) {
            check(Modifier.isPrivate(f.getModifiers()), "rule 1: " + c + " " + f.getName());
        }
        for (Constructor<?> k : c.getDeclaredConstructors()) {
            check(Modifier.isPrivate(k.getModifiers()), "rule 1: constructor of " + c);
        }
        both(c);
    }

    private static void both(Class<?> c) {
        int fields = 0;
        for (Field f : c.getDeclaredFields()) {
            boolean fixed = Modifier.isStatic(f.getModifiers());
            check(!fixed || Modifier.isFinal(f.getModifiers()), "rule 5: " + f);
            fields += fixed ? 0 : 1;
        }
        check(fields <= 20, "rule 11: fields of " + c);
        for (Method m : c.getDeclaredMethods()) {
            check(m.getParameterCount() <= 7, "rule 11: parameters of " + m);
            check(Modifier.isPublic(m.getModifiers()) || !FACE.contains(m.getName()), "rule 1: name of " + m);
        }
    }

    private static void text(List<String> lines) {
        int start = 0;
        for (int i = 0; i < lines.size(); i++) {
            String line = lines.get(i);
            String code = line.replaceAll("\"[^\"]*\"", "\"\"").replaceAll("//.*", "");
            boolean comment = line.trim().startsWith("*") || line.trim().startsWith("/*");
            if (comment) continue;
            for (String not : List.of("::", "finally", "synchronized", "assert ", "static {", "\" +", "+ \"", "volatile",
                "protected ", "package ", "var ", "Exact(", "Throwable", "(Exception ", "NullPointerException", "ClassCastException",
                "ArrayIndexOutOfBoundsException", "NegativeArraySizeException", "ArrayStoreException")) {
                check(!code.contains(not), "line " + (i + 1) + " has " + not);
            }
            boolean lambda = code.contains("->") && !code.trim().matches("(case|default)\\b.*");
            check(!lambda, "rule 2: a lambda in line " + (i + 1));
            check(!code.startsWith("import ") || code.matches("import java\\.util\\.(Arrays|ArrayList|List|Iterator|NoSuchElementException);"),
                "rule 4: " + code);
            if (code.matches("    (    )?(private|public) .*\\) \\{")) start = i;
            if (code.matches("    (    )?\\}")) check(i - start <= 60, "rule 11: the method at line " + (start + 1));
        }
    }
}
