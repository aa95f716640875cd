import java.lang.reflect.Constructor;
import java.lang.reflect.Field;
import java.lang.reflect.Method;
import java.lang.reflect.Modifier;
import java.nio.file.Files;
import java.nio.file.Path;
import java.util.List;
import java.util.Set;
import java.util.TreeSet;

/** What of LANGUAGE.md can be seen from the source's text and from the compiled face. */
public final class LanguageTests {
    private static final List<String> FACE = List.of(
        "int feed(int,int,int,int,int)", "int text(int)", "int fault(int)", "int named(int)", "int look(int,int)",
        "boolean day(int)", "int letter(int,int,int,int)", "int when(int,int,int)", "int resent(int,int,int)",
        "int post(int,int)", "int whence(int,int,int)", "int plies(int)", "int row(int,int)", "int by(int,int)",
        "int at(int,int)", "int turn(int)", "int end(int)", "int moves(int)", "int move(int,int)", "long law(int,int)",
        "int sure(int,int,int,int)", "int games(int,int)", "int safe(int,int,int,int)", "int reply(int,int,int,int)",
        "int refuted(int,int,int)", "int fewest(int)", "int clock(int,int)", "int log(int,int)", "int forged()",
        "int lot(int,int,int)", "int undo()", "int keep()", "int back()", "int count(int)");

    private static final List<String> OUTSIDE = List.of("->", "::", "finally", "catch", "assert", "synchronized", "Exact",
        "System.out", "String.format", "static {", "protected", "package ", "equals(", "hashCode", "toString",
        "import java.util.*");

    private static String face(Method m) {
        StringBuilder s = new StringBuilder(m.getReturnType().getSimpleName() + " " + m.getName() + "(");
        for (Class<?> p : m.getParameterTypes()) {
            s.append(s.charAt(s.length() - 1) == '(' ? "" : ",").append(p.getSimpleName());
        }
        return s + ")";
    }

    private static void members() {
        Class<?> c = PostStones.class;
        Due.due("the class is public and final", c.getModifiers() & (Modifier.PUBLIC | Modifier.FINAL),
            Modifier.PUBLIC | Modifier.FINAL);
        Set<String> seen = new TreeSet<>();
        Set<String> names = new TreeSet<>();
        for (Method m : c.getDeclaredMethods()) {
            if (Modifier.isPublic(m.getModifiers())) {
                seen.add(face(m));
                names.add(m.getName());
            } else {
                Due.due(m + " is private", Modifier.isPrivate(m.getModifiers()) ? 1 : 0, 1);
            }
        }
        Due.due("the face " + seen, seen.equals(new TreeSet<>(FACE)) ? 1 : 0, 1);
        for (Field f : c.getDeclaredFields()) {
            Due.due(f + " is private", Modifier.isPrivate(f.getModifiers()) || f.getName().equals("NONE") ? 1 : 0, 1);
        }
        for (Constructor<?> k : c.getDeclaredConstructors()) {
            Due.due(k + " takes nothing", k.getParameterCount(), 0);
        }
        Due.due("how many classes inside are some twelve at most", Math.max(12, c.getDeclaredClasses().length), 12);
        for (Class<?> inside : c.getDeclaredClasses()) {
            inside(inside, names);
        }
        for (Method m : c.getDeclaredMethods()) {
            boolean hidden = !Modifier.isPublic(m.getModifiers()) && names.contains(m.getName());
            Due.due(m + " has a name of the face", hidden ? 1 : 0, 0);
        }
    }

    private static void inside(Class<?> c, Set<String> face) {
        int fields = 0;
        for (Field f : c.getDeclaredFields()) {
            boolean fixed = Modifier.isStatic(f.getModifiers());
            Due.due(f + " is final if static", !fixed || Modifier.isFinal(f.getModifiers()) ? 1 : 0, 1);
            fields += fixed ? 0 : 1;
        }
        Due.due("fields of " + c, Math.max(20, fields), 20);
        for (Method m : c.getDeclaredMethods()) {
            Due.due(m + " takes at most seven", Math.max(7, m.getParameterCount()), 7);
            Due.due(m + " has a name of the face", face.contains(m.getName()) ? 1 : 0, 0);
        }
    }

    private static void source() throws java.io.IOException {
        List<String> lines = Files.readAllLines(Path.of("src/main/java/PostStones.java"));
        int start = -1;
        for (int i = 0; i < lines.size(); i++) {
            String line = lines.get(i);
            for (String word : OUTSIDE) {
                Due.due("line " + (i + 1) + " has '" + word + "'", line.contains(word) ? 1 : 0, 0);
            }
            Due.due("line " + (i + 1) + " is of signs 1 to 127", line.chars().allMatch(s -> s < 128) ? 1 : 0, 1);
            Due.due("line " + (i + 1) + " is not too long", Math.max(120, line.length()), 120);
            if (line.matches(" {4}( {4})?[a-z].*\\) (throws .*)?\\{")) {
                start = i;
            }
            if (line.matches(" {4}( {4})?\\}") && start >= 0) {
                Due.due("lines of the method from line " + (start + 1), Math.max(60, i - start + 1), 60);
                start = -1;
            }
        }
    }

    public static void main(String[] args) throws java.io.IOException {
        members();
        source();
        Due.close();
    }
}
