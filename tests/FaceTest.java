import java.io.IOException;
import java.lang.reflect.Constructor;
import java.lang.reflect.Field;
import java.lang.reflect.Method;
import java.lang.reflect.Modifier;
import java.nio.file.Files;
import java.nio.file.Path;
import java.util.Set;
import java.util.TreeSet;

/** The class has the public face that ../shared/DOC.md shows, and nothing else. Runs in the project's folder. */
public final class FaceTest {
    private static int wrong = 0;

    public static void main(String[] args) throws IOException {
        String doc = Files.readString(Path.of("../shared/DOC.md"));
        Set<String> shown = shownIn(doc);
        Set<String> there = there();
        for (String one : shown) check(there.contains(one), "the document shows " + one);
        for (String one : there) check(shown.contains(one), "the document doesn't show " + one);
        check(shown.size() == 1 + 1 + 42 - 1, "a constant, a constructor and 41 methods, not " + shown.size());
        check(KeptPromises.NONE == -1, "NONE is -1");
        promisesNamed(doc, shown);
        System.out.println("FaceTest: " + shown.size() + " members, " + wrong + " wrong");
        if (wrong > 0) System.exit(1);
    }

    private static void check(boolean fine, String what) {
        if (!fine) {
            wrong++;
            System.out.println("FaceTest: " + what);
        }
    }

    /** The members in the document's block of Java: types and names, without those of arguments. */
    private static Set<String> shownIn(String doc) {
        Set<String> members = new TreeSet<>();
        int start = doc.indexOf("```java\n");
        String block = doc.substring(start, doc.indexOf("\n```", start + 3));
        for (String line : block.split("\n")) {
            if (!line.startsWith("    ")) continue;
            String member = line.trim().replaceAll("( = .*)?;$", "");
            members.add(member.replaceAll("(\\w+) \\w+(?=[,)])", "$1"));
        }
        return members;
    }

    private static Set<String> there() {
        Set<String> members = new TreeSet<>();
        Class<?> c = KeptPromises.class;
        check(c.getModifiers() == (Modifier.PUBLIC | Modifier.FINAL) && c.getSuperclass() == Object.class
            && c.getInterfaces().length == 0, "a public final class");
        for (Field f : c.getDeclaredFields()) {
            if (!Modifier.isPrivate(f.getModifiers())) {
                members.add(Modifier.toString(f.getModifiers()) + " " + f.getType() + " " + f.getName());
            }
        }
        for (Constructor<?> k : c.getDeclaredConstructors()) {
            members.add(Modifier.toString(k.getModifiers()) + " " + c.getName() + list(k.getParameterTypes()));
        }
        for (Method m : c.getDeclaredMethods()) {
            if (!Modifier.isPrivate(m.getModifiers())) {
                members.add(Modifier.toString(m.getModifiers()) + " " + m.getReturnType() + " " + m.getName()
                    + list(m.getParameterTypes()));
            }
        }
        return members;
    }

    private static String list(Class<?>[] types) {
        StringBuilder b = new StringBuilder("(");
        for (Class<?> t : types) b.append(b.length() > 1 ? ", " : "").append(t.getName());
        return b.append(")").toString();
    }

    /** Each promise's heading and its call tell the same method, which is of the face. */
    private static void promisesNamed(String doc, Set<String> shown) {
        for (int n = 2; n <= 42; n++) {
            int start = doc.indexOf("## Promise " + n + ": ");
            check(start >= 0, "the document has no promise " + n);
            if (start < 0) continue;
            String[] lines = doc.substring(start, Math.min(doc.length(), start + 200)).split("\n+");
            String name = lines[0].replaceAll(".*: ", "");
            String call = lines[1].replaceAll("^`([^`]*)`.*", "$1").replaceAll("(\\w+) \\w+(?=[,)])", "$1");
            check(call.contains(" " + name + "(") && shown.contains("public " + call), "promise " + n + ", " + call);
        }
    }
}
