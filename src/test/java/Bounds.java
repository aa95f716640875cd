import java.io.IOException;
import java.nio.file.Files;
import java.nio.file.Path;
import java.util.ArrayList;
import java.util.LinkedHashMap;
import java.util.List;
import java.util.Map;

/**
 * Answers that are due by a sentence of the document. Each sentence is named by its words, which must
 * stand in the document where the test says; close() tells what words of it no test has named. Both are
 * left out where the document itself isn't at hand: the answers are asked for all the same.
 */
final class Bounds {
    static final int NONE = -1;
    static final int MIN = Integer.MIN_VALUE;
    static final int MAX = Integer.MAX_VALUE;
    static final long ERROR = Long.MIN_VALUE;
    static final String TERMS = "Terms";

    private static final Map<String, String> SECTIONS = sections();
    private static final Map<String, boolean[]> NAMED = new LinkedHashMap<>();
    private static String named = "no sentence";

    private Bounds() { }

    interface Made {
        Game anew();
    }

    interface Act {
        long on(Game x);
    }

    /** The answers that are told from here on are due by these words of this part of the document. */
    static void sentence(String section, String words) {
        named = section + ", '" + words + "'";
        if (SECTIONS.isEmpty()) {
            return;
        }
        String whole = SECTIONS.getOrDefault(section, "");
        boolean[] marks = NAMED.computeIfAbsent(section, s -> new boolean[whole.length()]);
        int at = whole.indexOf(words);
        Due.due(named + " stands in the document", at >= 0 ? 1 : 0, 1);
        for (; at >= 0; at = whole.indexOf(words, at + 1)) {
            for (int i = at; i < at + words.length(); i++) {
                marks[i] = true;
            }
        }
    }

    static void promise(int number, String words) {
        sentence("Promise " + number, words);
    }

    static void due(String call, long got, long want) {
        Due.due(named + ": " + call, got, want);
    }

    /** A call that answers so, and leaves all as it was: as in an object that was never asked. */
    static void refused(String call, Made made, Act act, long answer) {
        Game asked = made.anew();
        Game left = made.anew();
        due(call, act.on(asked), answer);
        due(call + " leaves the fault", asked.fault(0), left.fault(0));
        due(call + " leaves the fault's place", asked.fault(1), left.fault(1));
        same(call + " leaves all as it was", asked, left);
    }

    static void same(String what, Game one, Game other) {
        List<Long> a = trace(one);
        List<Long> b = trace(other);
        int differ = -1;
        for (int i = 0; i < Math.max(a.size(), b.size()) && differ < 0; i++) {
            boolean like = i < a.size() && i < b.size() && a.get(i).equals(b.get(i));
            differ = like ? -1 : i;
        }
        due(what + ", the first answer that differs", differ, -1);
    }

    /** What can be seen of an object, taking it apart on the way; its fault is left out. */
    private static List<Long> trace(Game x) {
        List<Long> seen = new ArrayList<>();
        for (int what = 0; what < 9; what++) {
            seen.add((long) x.count(what));
        }
        traceRules(x, seen);
        traceRows(x, seen);
        traceLetters(x, seen);
        seen.add((long) x.back());
        traceLetters(x, seen);
        seen.add((long) x.count(7));
        for (int i = 0; i < 3; i++) {
            seen.add((long) x.undo());
            seen.add((long) x.count(6));
        }
        seen.add((long) x.feed(0x6c617465, 0x3b202020, 0x20202020, 0x20202020, 0x20202020));
        seen.add((long) x.text(40));
        return seen;
    }

    private static void traceRules(Game x, List<Long> seen) {
        for (int kind = 0; kind < x.count(0); kind++) {
            for (int what = 0; what < 3; what++) {
                seen.add((long) x.look(kind, what));
            }
        }
        seen.add(x.law(0, x.move(0, 0)));
        seen.add((long) x.games(0, 2));
    }

    private static void traceRows(Game x, List<Long> seen) {
        for (int view = 0; view < 4; view++) {
            int plies = x.plies(view);
            seen.add((long) plies);
            for (int k = 0; k < Math.min(plies, 4); k++) {
                seen.add((long) x.row(view, k));
                seen.add((long) x.by(view, k));
            }
            seen.add((long) x.turn(view));
            seen.add((long) x.end(view));
            seen.add((long) x.moves(view));
        }
        for (int point = 0; point < x.count(2) * x.count(3); point++) {
            seen.add((long) x.at(0, point));
        }
    }

    private static void traceLetters(Game x, List<Long> seen) {
        int letters = x.count(5);
        seen.add((long) letters);
        for (int letter = 0; letter < letters; letter++) {
            for (int what = 1; what < 6; what++) {
                seen.add((long) x.post(letter, what));
            }
        }
        for (int which = 0; which < 6; which++) {
            seen.add((long) x.whence(letters - 1, which, 0));
            seen.add((long) x.whence(0, which, 1));
        }
        seen.add((long) x.clock(0, 0));
        seen.add((long) x.clock(1, 0));
        seen.add((long) x.forged());
    }

    /** Tells the words of the terms and promises that no sentence has named. */
    static void close() {
        if (SECTIONS.isEmpty()) {
            System.out.println("../shared/DOC.md can't be read: the sentences' words are not looked up");
        }
        for (String section : SECTIONS.keySet()) {
            String whole = SECTIONS.get(section);
            boolean[] marks = NAMED.getOrDefault(section, new boolean[whole.length()]);
            StringBuilder left = new StringBuilder();
            for (int i = 0; i < whole.length(); i++) {
                left.append(marks[i] ? '\n' : whole.charAt(i));
            }
            for (String part : left.toString().split("\n+")) {
                boolean words = part.matches(".*[A-Za-z0-9].*");
                Due.due(section + ", not named by a test: '" + part.trim() + "'", words ? 1 : 0, 0);
            }
        }
        Due.close();
    }

    /** The terms and the promises by their headings, without the calls' faces and the parts' numbers. */
    private static Map<String, String> sections() {
        Map<String, String> found = new LinkedHashMap<>();
        for (String part : document().split("(?m)^## ")) {
            String heading = part.lines().findFirst().orElse("").replaceAll(":.*", "").trim();
            if (heading.equals(TERMS) || heading.startsWith("Promise ")) {
                String body = part.substring(part.indexOf('\n') + 1);
                body = body.replaceAll("```(text)?", " ").replaceAll("==== [0-9][.]", " ");
                body = body.replaceAll("\\s+", " ").trim();
                found.put(heading, body.replaceAll("^`[^`]*`: ", ""));
            }
        }
        return found;
    }

    private static String document() {
        try {
            return Files.readString(Path.of("../shared/DOC.md"));
        } catch (IOException e) {
            return "";
        }
    }
}
