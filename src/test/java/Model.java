import java.util.ArrayList;
import java.util.Arrays;
import java.util.HashMap;
import java.util.List;
import java.util.Map;

/**
 * The document once more, written for shortness and without regard to cost: ModelTests holds the
 * class against it. Nothing of it is taken from the class.
 */
final class Model {
    static final int NONE = -1;
    static final long ERROR = Long.MIN_VALUE;

    /** A FAULT on the way through a text. */
    static final class Fault extends RuntimeException {
        final int number;
        final int place;

        Fault(int number, int place) {
            this.number = number;
            this.place = place;
        }
    }

    record Token(String text, int place) {
        boolean isWord() {
            return !text.isEmpty() && Character.isLowerCase(text.charAt(0));
        }

        boolean isNumber() {
            return !text.isEmpty() && Character.isDigit(text.charAt(0));
        }

        boolean isBeyond(int least, int most) {
            String digits = text.replaceFirst("^0+(?=.)", "");
            return digits.length() > 6 || Integer.parseInt(digits) < least || Integer.parseInt(digits) > most;
        }
    }

    record Kind(String name, boolean runs, List<int[]> steps, boolean king) { }

    record Stone(int kind, int player) { }

    /** A tree of a law. */
    record Knot(String sign, Knot left, Knot right) { }

    record If(int ply, int ahead, int move) { }

    static final class Letter {
        int player;
        int mark;
        int arrival;
        int answers;
        int resentOf = NONE;
        List<If> ifs = new ArrayList<>();

        Letter copy() {
            Letter c = new Letter();
            c.player = player;
            c.mark = mark;
            c.arrival = arrival;
            c.answers = answers;
            c.resentOf = resentOf;
            c.ifs = new ArrayList<>(ifs);
            return c;
        }
    }

    record Log(int letter, int day) { }

    record Image(List<Letter> letters, List<Log> logs, int day) { }

    /** What a text told. */
    static final class Told {
        int wide = 3;
        int high = 3;
        List<Kind> kinds = new ArrayList<>();
        Map<Integer, Stone> stones = new HashMap<>();
        Knot law = null;
        int knots = 0;
        int least = 4;
        int most = 11;
        int days = 60;
        boolean late = false;
        int lines = 0;
    }

    static final List<String> LINES = List.of("board", "kind", "stone", "law", "post", "days", "late");
    static final List<String> NAMES =
        List.of("takes", "far", "row", "kind", "stones", "others", "ply", "king");
    static final List<String> OTHER_WORDS = List.of("leaps", "runs", "or", "and", "not");

    /** Reads a text by descent, as the grammar stands. */
    static final class Reader {
        final String text;
        final List<Token> tokens = new ArrayList<>();
        int next = 0;
        int open = 0;
        final Told told = new Told();

        Reader(String text) {
            this.text = text;
        }

        /** Cut lazily: what is wrong behind the first fault must not be told. */
        Token token() {
            int at = next;
            while (at < text.length() && (text.charAt(at) == '\n' || text.charAt(at) == ' ')) {
                at++;
            }
            if (at == text.length()) {
                return new Token("", at);
            }
            String rest = text.substring(at);
            String found = "";
            for (String pattern : List.of("[a-z]+", "[0-9]+", "<=|<>|>=|[-;+*/()<>=]")) {
                java.util.regex.Matcher m = java.util.regex.Pattern.compile(pattern).matcher(rest);
                if (m.lookingAt()) {
                    found = m.group();
                    break;
                }
            }
            if (found.isEmpty() || (Character.isLowerCase(found.charAt(0)) && found.length() > 6)) {
                throw new Fault(1, at);
            }
            return new Token(found, at);
        }

        boolean sees(String... words) {
            return Arrays.asList(words).contains(token().text());
        }

        Token take() {
            Token t = token();
            next = t.place() + t.text().length();
            return t;
        }

        void must(boolean holds, int number) {
            if (!holds) {
                throw new Fault(number, token().place());
            }
        }

        Token take(String... words) {
            must(sees(words), 1);
            return take();
        }

        int number(int least, int most) {
            must(token().isNumber(), 1);
            must(!token().isBeyond(least, most), 2);
            return Integer.parseInt(take().text());
        }

        Told read() {
            List<String> once = new ArrayList<>();
            while (!token().text().isEmpty()) {
                must(LINES.contains(token().text()), 1);
                String word = token().text();
                must(!once.contains(word), 3);
                must(!word.equals("board") || told.stones.isEmpty(), 3);
                must(!word.equals("kind") || told.kinds.size() < 4, 2);
                must(!word.equals("stone") || told.stones.size() < 8, 2);
                if (!word.equals("kind") && !word.equals("stone")) {
                    once.add(word);
                }
                take();
                switch (word) {
                    case "board" -> { told.wide = number(2, 5); told.high = number(2, 5); }
                    case "kind" -> kind();
                    case "stone" -> stone();
                    case "law" -> told.law = or();
                    case "post" -> { told.least = number(0, 30); told.most = number(told.least, 60); }
                    case "days" -> told.days = number(0, 999);
                    default -> told.late = true;
                }
                take(";");
                told.lines++;
            }
            return told;
        }

        String name() {
            String w = token().text();
            must(token().isWord(), 1);
            must(!LINES.contains(w) && !NAMES.contains(w) && !OTHER_WORDS.contains(w), 1);
            return w;
        }

        void kind() {
            String w = name();
            must(told.kinds.stream().noneMatch(k -> k.name().equals(w)), 3);
            take();
            boolean runs = take("leaps", "runs").text().equals("runs");
            List<int[]> steps = new ArrayList<>();
            do {
                must(steps.size() < 8 || !(token().isNumber() || sees("-")), 2);
                int x = offset();
                int sign = sees("-") ? -1 : 1;
                if (sign < 0) {
                    take();
                }
                Token second = token();
                int y = sign * number(0, 4);
                if (x == 0 && y == 0) {
                    throw new Fault(5, second.place());
                }
                steps.add(new int[] {x, y});
            } while (token().isNumber() || sees("-"));
            boolean king = sees("king");
            if (king) {
                take();
            }
            told.kinds.add(new Kind(w, runs, steps, king));
        }

        int offset() {
            if (sees("-")) {
                take();
                return -number(0, 4);
            }
            return number(0, 4);
        }

        void stone() {
            String w = name();
            int kind = NONE;
            for (int k = 0; k < told.kinds.size(); k++) {
                kind = told.kinds.get(k).name().equals(w) ? k : kind;
            }
            must(kind != NONE, 4);
            take();
            int player = number(0, 1);
            int x = number(0, told.wide - 1);
            Token at = token();
            int y = number(0, told.high - 1);
            if (told.stones.containsKey(y * told.wide + x)) {
                throw new Fault(5, at.place());
            }
            told.stones.put(y * told.wide + x, new Stone(kind, player));
        }

        Token knot() {
            must(told.knots < 64, 2);
            told.knots++;
            return take();
        }

        Knot or() {
            Knot k = and();
            while (sees("or")) {
                k = new Knot(knot().text(), k, and());
            }
            return k;
        }

        Knot and() {
            Knot k = not();
            while (sees("and")) {
                k = new Knot(knot().text(), k, not());
            }
            return k;
        }

        Knot not() {
            if (sees("not")) {
                return new Knot(knot().text(), not(), null);
            }
            Knot k = sum();
            if (sees("<", "<=", "=", "<>", ">=", ">")) {
                k = new Knot(knot().text(), k, sum());
            }
            return k;
        }

        Knot sum() {
            Knot k = product();
            while (sees("+", "-")) {
                k = new Knot(knot().text(), k, product());
            }
            return k;
        }

        Knot product() {
            Knot k = primary();
            while (sees("*", "/")) {
                k = new Knot(knot().text(), k, primary());
            }
            return k;
        }

        Knot primary() {
            if (sees("(")) {
                must(open < 8, 2);
                open++;
                take();
                Knot k = or();
                take(")");
                open--;
                return k;
            }
            must(token().isNumber() || NAMES.contains(token().text()), 1);
            must(!token().isNumber() || !token().isBeyond(0, 9999), 2);
            return new Knot(knot().text(), null, null);
        }
    }

    /** A board behind some MOVES; never changed. */
    final class Place {
        final Map<Integer, Stone> stones;
        final int made;

        Place(Map<Integer, Stone> stones, int made) {
            this.stones = stones;
            this.made = made;
        }

        int turn() {
            return made % 2;
        }

        long has(int player) {
            return stones.values().stream().filter(s -> s.player() == player).count();
        }

        long law(int from, int to, int far) {
            if (told.law == null) {
                return ERROR;
            }
            Kind kind = told.kinds.get(stones.get(from).kind());
            int y = to / told.wide;
            boolean takes = stones.containsKey(to) && stones.get(to).player() != turn();
            Map<String, Long> names = new HashMap<>();
            names.put("takes", takes ? 1L : 0L);
            names.put("far", (long) far);
            names.put("row", (long) (turn() == 0 ? y : told.high - 1 - y));
            names.put("kind", (long) stones.get(from).kind());
            names.put("stones", has(turn()));
            names.put("others", has(1 - turn()));
            names.put("ply", (long) made);
            names.put("king", kind.king() ? 1L : 0L);
            try {
                return value(told.law, names);
            } catch (ArithmeticException e) {
                return ERROR;
            }
        }

        /** Each way a stone has: the point to, how many times, whether the way is free. */
        List<int[]> ways(int from) {
            Kind kind = told.kinds.get(stones.get(from).kind());
            List<int[]> ways = new ArrayList<>();
            for (int[] step : kind.steps()) {
                boolean free = true;
                for (int far = 1; far <= (kind.runs() ? 4 : 1); far++) {
                    int x = from % told.wide + far * step[0];
                    int y = from / told.wide + far * step[1];
                    boolean on = x >= 0 && y >= 0 && x < told.wide && y < told.high;
                    if (on) {
                        ways.add(new int[] {y * told.wide + x, far, free ? 1 : 0});
                        free = free && !stones.containsKey(y * told.wide + x);
                    }
                }
            }
            return ways;
        }

        boolean own(int point) {
            return stones.containsKey(point) && stones.get(point).player() == turn();
        }

        List<Integer> moves() {
            List<Integer> found = new ArrayList<>();
            for (int from = 0; from < told.wide * told.high; from++) {
                if (own(from)) {
                    for (int[] w : ways(from)) {
                        int move = 64 * from + w[0];
                        boolean lawful = w[2] == 1 && !own(w[0]) && law(from, w[0], w[1]) != 0;
                        if (lawful && !found.contains(move)) {
                            found.add(move);
                        }
                    }
                }
            }
            return found;
        }

        Place behind(int move) {
            Map<Integer, Stone> then = new HashMap<>(stones);
            then.put(move % 64, then.remove(move / 64));
            return new Place(then, made + 1);
        }

        boolean kingless() {
            boolean had = told.stones.values().stream()
                .anyMatch(s -> s.player() == turn() && told.kinds.get(s.kind()).king());
            boolean has = stones.values().stream()
                .anyMatch(s -> s.player() == turn() && told.kinds.get(s.kind()).king());
            return had && !has;
        }

        boolean lost() {
            return kingless() || moves().isEmpty();
        }

        boolean lostIn(int n) {
            return lost() || (n >= 1 && moves().stream().allMatch(m -> behind(m).winsIn(n - 1)));
        }

        boolean winsIn(int n) {
            return !lost() && n >= 1 && moves().stream().anyMatch(m -> behind(m).lostIn(n - 1));
        }

        int games(int n) {
            if (n == 0) {
                return 1;
            }
            return kingless() ? 0 : moves().stream().mapToInt(m -> behind(m).games(n - 1)).sum();
        }

        int firstSafe(int n) {
            if (lost()) {
                return -2;
            }
            return moves().stream().filter(m -> !behind(m).winsIn(n)).findFirst().orElse(-2);
        }
    }

    static long value(Knot k, Map<String, Long> names) {
        if (k.left() == null) {
            return names.containsKey(k.sign()) ? names.get(k.sign()) : Long.parseLong(k.sign());
        }
        long a = value(k.left(), names);
        if (k.sign().equals("not")) {
            return a == 0 ? 1 : 0;
        }
        long b = value(k.right(), names);
        long v = switch (k.sign()) {
            case "or" -> a != 0 || b != 0 ? 1 : 0;
            case "and" -> a != 0 && b != 0 ? 1 : 0;
            case "<" -> a < b ? 1 : 0;
            case "<=" -> a <= b ? 1 : 0;
            case "=" -> a == b ? 1 : 0;
            case "<>" -> a != b ? 1 : 0;
            case ">=" -> a >= b ? 1 : 0;
            case ">" -> a > b ? 1 : 0;
            case "+" -> a + b;
            case "-" -> a - b;
            case "*" -> Math.multiplyExact(a, b);
            default -> a / b;
        };
        if (Math.abs(v) > 1_000_000_000_000L) {
            throw new ArithmeticException();
        }
        return v;
    }

    /** The ROW of some letters. */
    final class Rowed {
        final List<Integer> moves = new ArrayList<>();
        final List<Integer> by = new ArrayList<>();
        final Map<List<Integer>, Integer> fates = new HashMap<>();
        Place place = new Place(told.stones, 0);
        int end;

        Rowed(List<Integer> numbers) {
            List<Map<Integer, Stone>> boards = new ArrayList<>();
            List<Integer> order = new ArrayList<>(numbers);
            order.sort((a, b) -> {
                int c = Integer.compare(letters.get(a).mark, letters.get(b).mark);
                c = c == 0 ? Integer.compare(a, b) : c;
                return told.late ? -c : c;
            });
            while (true) {
                boards.add(place.stones);
                int times = 0;
                for (int i = place.made; i >= 0; i -= 2) {
                    times += boards.get(i).equals(place.stones) ? 1 : 0;
                }
                if (place.lost()) {
                    end = place.turn() == 0 ? 2 : 1;
                    return;
                }
                if (times >= 3 || place.made == 60) {
                    end = 3;
                    return;
                }
                if (!step(order)) {
                    return;
                }
            }
        }

        boolean step(List<Integer> order) {
            List<List<Integer>> follow = new ArrayList<>();
            List<List<Integer>> strays = new ArrayList<>();
            for (int l : order) {
                for (int i = 0; i < ifs(l).size(); i++) {
                    If f = ifs(l).get(i);
                    if (f.ply() == place.made) {
                        boolean fits = f.ahead() == NONE
                            || (!moves.isEmpty() && moves.get(moves.size() - 1) == f.ahead());
                        (fits ? follow : strays).add(List.of(l, i));
                    }
                }
            }
            List<Integer> lawful = place.moves();
            for (int i = 0; i < follow.size(); i++) {
                int l = follow.get(i).get(0);
                int move = ifs(l).get(follow.get(i).get(1)).move();
                if (lawful.contains(move)) {
                    for (int j = 0; j < follow.size(); j++) {
                        fates.put(follow.get(j), j < i ? -3 : j == i ? 1 : -2);
                    }
                    strays.forEach(s -> fates.put(s, -1));
                    moves.add(move);
                    by.add(l);
                    place = place.behind(move);
                    return true;
                }
            }
            return false;
        }
    }

    final StringBuilder tape = new StringBuilder();
    Told told = new Told();
    int faultNumber = 0;
    int faultPlace = NONE;
    List<Letter> letters = new ArrayList<>();
    List<Log> logs = new ArrayList<>();
    int day = 0;
    Image image = null;

    List<If> ifs(int letter) {
        Letter l = letters.get(letter);
        return l.resentOf == NONE ? l.ifs : ifs(l.resentOf);
    }

    Rowed rowed(int view) {
        List<Integer> known = new ArrayList<>();
        for (int l = 0; l < letters.size(); l++) {
            Letter x = letters.get(l);
            boolean knows = switch (view) {
                case 0 -> true;
                case 1 -> x.player == 0 ? x.mark <= day : x.arrival <= day;
                case 2 -> x.player == 1 ? x.mark <= day : x.arrival <= day;
                default -> x.arrival <= day;
            };
            if (knows) {
                known.add(l);
            }
        }
        return new Rowed(known);
    }

    static boolean in(int value, int least, int most) {
        return value >= least && value <= most;
    }

    int feed(int... five) {
        if (tape.length() + 20 > 700) {
            return NONE;
        }
        for (int v : five) {
            for (byte b : java.nio.ByteBuffer.allocate(4).putInt(v).array()) {
                tape.append((char) (b & 255));
            }
        }
        return tape.length();
    }

    int text(int n) {
        if (!in(n, 0, tape.length())) {
            return -2;
        }
        String s = tape.substring(0, n);
        tape.setLength(0);
        faultNumber = 0;
        faultPlace = NONE;
        try {
            told = new Reader(s).read();
        } catch (Fault f) {
            faultNumber = f.number;
            faultPlace = f.place;
            return NONE;
        }
        letters.clear();
        logs.clear();
        day = 0;
        image = null;
        return told.lines;
    }

    int fault(int what) {
        return what == 0 ? faultNumber : what == 1 ? faultPlace : NONE;
    }

    int named(int bits) {
        for (int k = 0; k < told.kinds.size(); k++) {
            String name = told.kinds.get(k).name();
            int code = 0;
            for (int i = 0; i < 6; i++) {
                code = code * 32 + (i < name.length() ? name.charAt(i) - 96 : 0);
            }
            if (code == bits) {
                return k;
            }
        }
        return NONE;
    }

    int look(int kind, int what) {
        if (!in(kind, 0, told.kinds.size() - 1)) {
            return -100;
        }
        Kind k = told.kinds.get(kind);
        return what == 0 ? (k.runs() ? 1 : 0) : what == 1 ? k.steps().size() : what == 2 ? (k.king() ? 1 : 0) : -200;
    }

    int day(int d) {
        day = in(d, 0, 999) ? d : day;
        return in(d, 0, 999) ? 1 : 0;
    }

    int letter(int player, int mark, int arrival, int answers) {
        boolean good = in(player, 0, 1) && in(mark, 0, 999) && in(arrival, 0, 999) && letters.size() < 16;
        good = good && in(answers, NONE, letters.size() - 1);
        if (!good || (answers != NONE && letters.get(answers).player == player)) {
            return NONE;
        }
        Letter l = new Letter();
        l.player = player;
        l.mark = mark;
        l.arrival = arrival;
        l.answers = answers;
        letters.add(l);
        return letters.size() - 1;
    }

    int when(int ply, int ahead, int move) {
        if (letters.isEmpty()) {
            return NONE;
        }
        Letter l = letters.get(letters.size() - 1);
        boolean good = l.resentOf == NONE && l.ifs.size() < 6 && in(ply, 0, 59) && ply % 2 == l.player;
        if (!good || !in(ahead, NONE, 4095) || !in(move, 0, 4095)) {
            return NONE;
        }
        l.ifs.add(new If(ply, ahead, move));
        return l.ifs.size();
    }

    int resent(int letter, int mark, int arrival) {
        if (!in(letter, 0, letters.size() - 1)) {
            return NONE;
        }
        Letter of = letters.get(letter);
        int n = letter(of.player, mark, arrival, of.answers);
        if (n != NONE) {
            letters.get(n).resentOf = letter;
        }
        return n;
    }

    int post(int letter, int what) {
        if (!in(letter, 0, letters.size() - 1) || !in(what, 0, 6)) {
            return Integer.MIN_VALUE;
        }
        Letter l = letters.get(letter);
        int[] all = {l.player, l.mark, l.arrival, l.answers, ifs(letter).size(), l.resentOf, l.arrival - l.mark};
        return all[what];
    }

    int whence(int letter, int which, int what) {
        if (!in(letter, 0, letters.size() - 1) || !in(which, 0, ifs(letter).size() - 1) || !in(what, 0, 1)) {
            return NONE;
        }
        int fate = rowed(0).fates.getOrDefault(List.of(letter, which), 0);
        return what == 0 ? Math.max(fate, -2) < 0 ? -2 : fate : fate < 0 ? -fate : 0;
    }

    int plies(int view) {
        return in(view, 0, 3) ? rowed(view).moves.size() : NONE;
    }

    int row(int view, int k) {
        return in(view, 0, 3) && in(k, 0, plies(view) - 1) ? rowed(view).moves.get(k) : NONE;
    }

    int by(int view, int k) {
        return in(view, 0, 3) && in(k, 0, plies(view) - 1) ? rowed(view).by.get(k) : NONE;
    }

    int at(int view, int point) {
        if (!in(view, 0, 3) || !in(point, 0, told.wide * told.high - 1)) {
            return NONE;
        }
        Stone s = rowed(view).place.stones.get(point);
        return s == null ? -2 : s.kind() + 4 * s.player();
    }

    int turn(int view) {
        return in(view, 0, 3) ? rowed(view).place.turn() : NONE;
    }

    int end(int view) {
        return in(view, 0, 3) ? rowed(view).end : NONE;
    }

    List<Integer> openMoves(int view) {
        Rowed r = rowed(view);
        return r.end == 0 ? r.place.moves() : List.of();
    }

    int moves(int view) {
        return in(view, 0, 3) ? openMoves(view).size() : NONE;
    }

    int move(int view, int k) {
        return in(view, 0, 3) && in(k, 0, openMoves(view).size() - 1) ? openMoves(view).get(k) : NONE;
    }

    long law(int view, int move) {
        if (!in(view, 0, 3) || !in(move, 0, 4095)) {
            return ERROR;
        }
        Place p = rowed(view).place;
        if (p.own(move / 64)) {
            for (int[] w : p.ways(move / 64)) {
                if (w[0] == move % 64) {
                    return p.law(move / 64, w[0], w[1]);
                }
            }
        }
        return ERROR;
    }

    int sure(int view, int player, int move, int what) {
        if (!in(view, 0, 3) || !in(player, 0, 1) || !in(move, 0, 4095) || !in(what, 0, 1)) {
            return NONE;
        }
        List<Integer> open = openMoves(view);
        Place p = rowed(view).place;
        if (open.isEmpty()) {
            return 0;
        }
        if (p.turn() == player) {
            return what == 1 ? 1 : open.contains(move) ? 1 : 0;
        }
        return what == 1 ? open.size() : (int) open.stream().filter(m -> p.behind(m).moves().contains(move)).count();
    }

    int games(int view, int n) {
        if (!in(view, 0, 3) || !in(n, 0, 3)) {
            return NONE;
        }
        return rowed(view).end != 0 ? (n == 0 ? 1 : 0) : rowed(view).place.games(n);
    }

    int safe(int view, int player, int n, int what) {
        if (!in(view, 0, 3) || !in(player, 0, 1) || !in(n, 0, 2) || !in(what, 0, 1)) {
            return NONE;
        }
        Rowed r = rowed(view);
        if (r.end != 0) {
            return r.end != 3 && r.place.turn() == player ? -2 : 0;
        }
        int ifs = 1;
        if (r.place.turn() == player) {
            if (r.place.firstSafe(n) == -2) {
                return -2;
            }
        } else {
            if (refuted(view, player, n) != -2) {
                return -2;
            }
            ifs = openMoves(view).size();
        }
        return what == 0 ? ifs : ifs <= 6 ? 1 : 0;
    }

    int reply(int view, int player, int n, int k) {
        if (!in(view, 0, 3) || !in(player, 0, 1) || !in(n, 0, 2) || rowed(view).end != 0) {
            return NONE;
        }
        Place p = rowed(view).place;
        if (p.turn() == player) {
            return k == 0 ? p.firstSafe(n) : NONE;
        }
        List<Integer> open = openMoves(view);
        return in(k, 0, open.size() - 1) ? p.behind(open.get(k)).firstSafe(n) : NONE;
    }

    int refuted(int view, int player, int n) {
        if (!in(view, 0, 3) || !in(player, 0, 1) || !in(n, 0, 2)) {
            return NONE;
        }
        Place p = rowed(view).place;
        if (p.turn() == player) {
            return -2;
        }
        return openMoves(view).stream().filter(m -> p.behind(m).firstSafe(n) == -2).findFirst().orElse(-2);
    }

    int fewest(int view) {
        if (!in(view, 0, 3)) {
            return NONE;
        }
        Rowed r = rowed(view);
        return r.end != 0 ? -2 : r.place.winsIn(1) ? 1 : r.place.winsIn(3) ? 2 : -2;
    }

    int clock(int player, int what) {
        if (!in(player, 0, 1) || !in(what, 0, 1)) {
            return NONE;
        }
        int sum = 0;
        int many = 0;
        for (Letter l : letters) {
            if (l.player == player && l.resentOf == NONE) {
                if (l.answers != NONE) {
                    sum += Math.max(0, l.mark - letters.get(l.answers).arrival);
                } else if (many == 0) {
                    sum += l.mark;
                }
                many++;
            }
        }
        return what == 0 ? sum : sum > told.days ? 1 : 0;
    }

    int log(int letter, int d) {
        if (!in(letter, 0, letters.size() - 1) || !in(d, 0, 999) || logs.size() >= 20) {
            return NONE;
        }
        logs.add(new Log(letter, d));
        return logs.size();
    }

    boolean isTrue(int set) {
        for (int l = 0; l < letters.size(); l++) {
            Letter x = letters.get(l);
            if ((set >> l & 1) == 1) {
                if (!in(x.arrival - x.mark, told.least, told.most)) {
                    return false;
                }
                if (x.answers != NONE && (set >> x.answers & 1) == 1 && x.mark < letters.get(x.answers).arrival) {
                    return false;
                }
                for (Log g : logs) {
                    if (g.letter() == l && !in(g.day(), x.mark, x.arrival)) {
                        return false;
                    }
                }
            }
        }
        return true;
    }

    int forged() {
        int best = 0;
        for (int set = 1; set < 1 << letters.size(); set++) {
            if ((best == 0 || Integer.bitCount(set) < Integer.bitCount(best)) && !isTrue(set)) {
                best = set;
            }
        }
        return best;
    }

    int lot(int view, int seed, int draws) {
        if (!in(view, 0, 3) || seed < 0 || !in(draws, 1, 20)) {
            return NONE;
        }
        List<Integer> now = rowed(view).moves;
        int[] arrivals = letters.stream().mapToInt(l -> l.arrival).toArray();
        java.math.BigInteger x = java.math.BigInteger.valueOf(seed);
        int otherwise = 0;
        for (int d = 0; d < draws; d++) {
            for (Letter l : letters) {
                x = x.multiply(java.math.BigInteger.valueOf(1103515245)).add(java.math.BigInteger.valueOf(12345))
                    .mod(java.math.BigInteger.ONE.shiftLeft(31));
                l.arrival = l.mark + told.least + x.shiftRight(16).intValue() % (told.most - told.least + 1);
            }
            otherwise += rowed(view).moves.equals(now) ? 0 : 1;
        }
        for (int l = 0; l < arrivals.length; l++) {
            letters.get(l).arrival = arrivals[l];
        }
        return otherwise;
    }

    int undo() {
        if (letters.isEmpty()) {
            return NONE;
        }
        int last = letters.size() - 1;
        List<If> own = letters.get(last).ifs;
        if (!own.isEmpty()) {
            own.remove(own.size() - 1);
        } else {
            letters.remove(last);
            logs.removeIf(g -> g.letter() == last);
        }
        return letters.size();
    }

    static List<Letter> copies(List<Letter> of) {
        List<Letter> all = new ArrayList<>();
        of.forEach(l -> all.add(l.copy()));
        return all;
    }

    int keep() {
        image = new Image(copies(letters), List.copyOf(logs), day);
        return letters.size();
    }

    int back() {
        if (image == null) {
            return NONE;
        }
        letters = copies(image.letters());
        logs = new ArrayList<>(image.logs());
        day = image.day();
        return letters.size();
    }

    int count(int what) {
        int[] all = {told.kinds.size(), told.stones.size(), told.wide, told.high, told.knots, letters.size(),
            logs.size(), day, told.days};
        return in(what, 0, 8) ? all[what] : NONE;
    }
}
