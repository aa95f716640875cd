import java.util.ArrayList;
import java.util.List;
import java.util.Random;

/** Random runs of calls, each answer held against the model's. */
public final class ModelTests {
    private static final int RUNS = Integer.getInteger("runs", 1500);
    private static final Random DICE = new Random(Integer.getInteger("seed", 7));

    private static int pick(int least, int most) {
        return least + DICE.nextInt(most - least + 1);
    }

    private static boolean seldom(int one) {
        return DICE.nextInt(one) == 0;
    }

    private static String any(String... of) {
        return of[DICE.nextInt(of.length)];
    }

    private static String offset() {
        int v = seldom(60) ? pick(4, 6) : seldom(4) ? pick(0, 4) : pick(0, 1);
        return (seldom(2) ? any("-", "- ") : "") + v;
    }

    private static String kindLine(String name) {
        if (steady) {
            return "kind " + name + " " + any("leaps 1 0 -1 0 0 1 0 -1", "runs 1 0 -1 0 0 1 0 -1", "leaps 1 2 2 1 -1 2 2 -1 1 -2 -1 -2",
                "leaps 1 1 1 -1 -1 1 -1 -1 0 1 0 -1", "runs 1 1 -1 -1", "runs 1 0 2 0 -1 0 -2 0") + (seldom(2) ? " king" : "") + ";";
        }
        StringBuilder s = new StringBuilder("kind " + name + " " + any("leaps", "runs"));
        int steps = seldom(30) ? pick(7, 9) : pick(1, 4);
        for (int i = 0; i < steps; i++) {
            String x = offset();
            String y = offset();
            if (!seldom(40) && x.endsWith("0") && y.endsWith("0")) {
                y = "1";
            }
            s.append(' ').append(x).append(' ').append(y);
        }
        return s + (seldom(2) ? " king" : "") + ";";
    }

    private static String expression(int depth) {
        if (depth <= 0 || seldom(4)) {
            return seldom(2)
                ? any("takes", "far", "row", "kind", "stones", "others", "ply", "king")
                : "" + (seldom(3) ? pick(0, seldom(5) ? 10001 : 9999) : pick(0, 3));
        }
        switch (pick(0, 8)) {
            case 0: return "(" + expression(depth - 1) + ")";
            case 1: return "not " + expression(depth - 1);
            case 2: return "(" + expression(depth - 1) + any("<", "<=", "=", "<>", ">=", ">") + expression(0) + ")";
            default: return expression(depth - 1)
                + any("+", "-", "*", "/", " or ", " and ", "<", "<=", "=", "<>", ">=", ">", " * ", "*")
                + expression(depth - 1);
        }
    }

    private static String text() {
        List<String> lines = new ArrayList<>();
        int wide = 3;
        int high = 3;
        if (!seldom(4)) {
            wide = pick(2, seldom(20) ? 6 : 4);
            high = pick(2, seldom(20) ? 6 : 4);
            lines.add("board " + wide + " " + high + ";");
        }
        List<String> names = List.of("k", "rook", "abcdef", "zz", "q");
        int kinds = seldom(20) ? pick(0, 5) : pick(1, 3);
        for (int i = 0; i < kinds; i++) {
            lines.add(kindLine(seldom(50) ? names.get(0) : names.get(i)));
        }
        int stones = seldom(20) ? pick(7, 9) : pick(1, 5);
        List<Integer> used = new ArrayList<>();
        for (int i = 0; i < stones; i++) {
            int x = pick(0, wide - 1);
            int y = pick(0, high - 1);
            if (!used.contains(y * wide + x) || seldom(30)) {
                used.add(y * wide + x);
                String name = names.get(pick(0, Math.max(0, kinds - 1)));
                lines.add("stone " + name + " " + (i % 2) + " " + x + " " + y + ";");
            }
        }
        if (seldom(steady ? 6 : 2)) {
            lines.add("law " + (seldom(3) ? expression(pick(0, 5)) : any("takes = 0 or row > 0", "far < 3",
                "stones >= others", "not takes or king", "1/(ply-2)", "row+1", "9999*9999*9999*ply", "ply<7", "kind",
                "not (king and takes)", "2-far", "9999*9999*(9999+1)*ply")) + ";");
        }
        if (!seldom(3)) {
            int least = pick(0, 4);
            lines.add("post " + least + " " + (least + pick(0, 5)) + ";");
        }
        if (seldom(2)) {
            lines.add("days " + pick(0, 20) + ";");
        }
        if (seldom(3)) {
            lines.add("late;");
        }
        if (seldom(12)) {
            lines.add(pick(0, lines.size()), any("late;", "days 5;", "post 1 2;", "board 2 2;", "law 1;", "kind k runs 1 1;",
                "stone k 0 0 0;", ";", "x;", "post 4 3;"));
        }
        return mutated(String.join(any("", " ", "\n"), lines));
    }

    private static String mutated(String text) {
        StringBuilder s = new StringBuilder(text);
        for (int i = 0; i < 3 && seldom(6) && s.length() > 0; i++) {
            int at = pick(0, s.length() - 1);
            switch (pick(0, 3)) {
                case 0: s.deleteCharAt(at); break;
                case 1: s.insert(at, any(";", "-", "0", "9", " ", "a", "(", ")", "<", "=", ">", "A", "\t", "king", "not ")); break;
                case 2: s.setLength(at); break;
                default: s.setCharAt(at, (char) pick(0, 255));
            }
        }
        return s.length() > 700 ? s.substring(0, 700) : s.toString();
    }

    /** Whether the run is to have a long row: kinds that come far, and letters that carry it on. */
    private static boolean steady = false;

    private static String told = "";
    private static List<String> calls;

    private static void same(String call, long got, long want) {
        calls.add(call + " = " + got);
        if (got != want) {
            System.out.println("text: " + told);
            calls.forEach(c -> System.out.println("  " + c));
        }
        Due.due(call, got, want);
        if (got != want) {
            Due.close();
        }
    }

    private static void tell(PostStones x, Model m) {
        told = text();
        for (int from = 0; from < told.length(); from += 20) {
            int[] f = Due.five(told, from);
            same("feed", x.feed(f[0], f[1], f[2], f[3], f[4]), m.feed(f));
        }
        int n = seldom(100) ? pick(-1, 720) : told.length();
        same("text(" + n + ")", x.text(n), m.text(n));
        same("fault(0)", x.fault(0), m.fault(0));
        same("fault(1)", x.fault(1), m.fault(1));
        for (int what = -1; what <= 9; what++) {
            same("count(" + what + ")", x.count(what), m.count(what));
        }
    }

    private static int player() {
        return seldom(60) ? pick(-1, 2) : pick(0, 1);
    }

    private static int view() {
        return seldom(60) ? pick(-1, 4) : pick(0, 3);
    }

    private static int moveOf(Model m) {
        List<Integer> open = m.openMoves(pick(0, 3));
        if (open.isEmpty() || seldom(12)) {
            return seldom(9) ? pick(-2, 4097) : pick(0, 15) * 64 + pick(0, 15);
        }
        return open.get(pick(0, open.size() - 1));
    }

    /** A letter or an IF that mostly carries the umpire's row on. */
    private static void write(PostStones x, Model m) {
        int turn = Math.max(0, m.turn(0));
        int size = m.letters.size();
        boolean others = size > 0 && m.letters.get(size - 1).player != turn;
        if (steady ? others || seldom(6) || size == 0 : seldom(2) || size == 0) {
            int by = seldom(steady ? 20 : 3) ? player() : turn;
            int mark = seldom(30) ? pick(-1, 1001) : pick(0, 20);
            int arrival = seldom(30) ? pick(-1, 1001) : Math.max(0, mark + pick(seldom(9) ? -3 : 0, 6));
            int answers = seldom(2) ? -1 : pick(-1, size);
            same("letter(" + by + "," + mark + "," + arrival + "," + answers + ")",
                x.letter(by, mark, arrival, answers), m.letter(by, mark, arrival, answers));
        }
        if (seldom(8)) {
            int of = pick(0, size);
            int mark = pick(0, 20);
            int arrival = mark + pick(0, 5);
            same("resent(" + of + "," + mark + "," + arrival + ")", x.resent(of, mark, arrival), m.resent(of, mark, arrival));
        }
        int ifs = steady ? pick(1, 4) : pick(0, 3);
        for (int i = 0; i < ifs; i++) {
            int plies = m.plies(0);
            int ply = seldom(20) ? pick(-1, 60) : plies + (seldom(3) ? pick(-2, 2) : 0);
            int ahead = seldom(steady ? 8 : 3) ? moveOf(m) : plies > 0 && seldom(2) ? m.row(0, plies - 1) : -1;
            int move = moveOf(m);
            if (steady && !seldom(6)) {
                // both sides go there and back, so that boards come again
                int back = plies > 1 ? m.row(0, plies - 2) : 0;
                ply = plies + (plies % 2 + turn) % 2;
                move = plies > 1 && !seldom(3) ? back % 64 * 64 + back / 64 : m.openMoves(0).isEmpty() ? 0
                    : m.openMoves(0).get(pick(0, m.openMoves(0).size() - 1));
            }
            same("when(" + ply + "," + ahead + "," + move + ")", x.when(ply, ahead, move), m.when(ply, ahead, move));
        }
    }

    private static void change(PostStones x, Model m) {
        switch (pick(0, 9)) {
            case 0:
                int d = seldom(9) ? pick(-1, 1000) : pick(0, 25);
                same("day(" + d + ")", x.day(d) ? 1 : 0, m.day(d));
                break;
            case 1:
                int l = pick(-1, m.letters.size());
                int day = seldom(5) ? pick(-1, 1000) : pick(0, 25);
                same("log(" + l + "," + day + ")", x.log(l, day), m.log(l, day));
                break;
            case 2:
                same("undo()", x.undo(), m.undo());
                break;
            case 3:
                same("keep()", x.keep(), m.keep());
                break;
            case 4:
                if (seldom(2)) {
                    same("back()", x.back(), m.back());
                }
                break;
            default:
                write(x, m);
        }
    }

    private static void askRow(PostStones x, Model m) {
        int v = view();
        int k = pick(-1, Math.max(0, m.plies(v)));
        same("plies(" + v + ")", x.plies(v), m.plies(v));
        same("row(" + v + "," + k + ")", x.row(v, k), m.row(v, k));
        same("by(" + v + "," + k + ")", x.by(v, k), m.by(v, k));
        int point = pick(-1, 25);
        same("at(" + v + "," + point + ")", x.at(v, point), m.at(v, point));
        same("turn(" + v + ")", x.turn(v), m.turn(v));
        same("end(" + v + ")", x.end(v), m.end(v));
        same("moves(" + v + ")", x.moves(v), m.moves(v));
        int which = pick(-1, Math.max(0, m.moves(v)));
        same("move(" + v + "," + which + ")", x.move(v, which), m.move(v, which));
        int move = moveOf(m);
        same("law(" + v + "," + move + ")", x.law(v, move), m.law(v, move));
        int any = pick(0, 8) * 64 + pick(0, 8);
        same("law(" + v + "," + any + ")", x.law(v, any), m.law(v, any));
    }

    private static void askLetters(PostStones x, Model m) {
        int l = pick(-1, m.letters.size());
        int what = pick(-1, 7);
        same("post(" + l + "," + what + ")", x.post(l, what), m.post(l, what));
        int which = pick(-1, 4);
        same("whence(" + l + "," + which + ",0)", x.whence(l, which, 0), m.whence(l, which, 0));
        same("whence(" + l + "," + which + ",1)", x.whence(l, which, 1), m.whence(l, which, 1));
        same("whence(" + l + "," + which + ",2)", x.whence(l, which, 2), m.whence(l, which, 2));
        int p = player();
        same("clock(" + p + ",0)", x.clock(p, 0), m.clock(p, 0));
        same("clock(" + p + ",1)", x.clock(p, 1), m.clock(p, 1));
        same("forged()", x.forged(), m.forged());
        int v = view();
        int seed = seldom(9) ? DICE.nextInt() : pick(0, 99);
        int draws = seldom(9) ? pick(-1, 21) : pick(1, 20);
        same("lot(" + v + "," + seed + "," + draws + ")", x.lot(v, seed, draws), m.lot(v, seed, draws));
        int kind = pick(-1, 4);
        int seen = pick(-1, 3);
        same("look(" + kind + "," + seen + ")", Due.look(x, kind, seen), m.look(kind, seen));
    }

    private static void askFollowing(PostStones x, Model m) {
        int v = view();
        int p = player();
        int n = seldom(20) ? pick(-1, 4) : pick(0, 2);
        int what = seldom(20) ? pick(-1, 2) : pick(0, 1);
        int move = moveOf(m);
        same("sure(" + v + "," + p + "," + move + "," + what + ")", x.sure(v, p, move, what), m.sure(v, p, move, what));
        same("games(" + v + "," + n + ")", x.games(v, n), m.games(v, n));
        same("safe(" + v + "," + p + "," + n + "," + what + ")", x.safe(v, p, n, what), m.safe(v, p, n, what));
        int k = pick(-1, Math.max(0, m.moves(v)));
        same("reply(" + v + "," + p + "," + n + "," + k + ")", x.reply(v, p, n, k), m.reply(v, p, n, k));
        same("refuted(" + v + "," + p + "," + n + ")", x.refuted(v, p, n), m.refuted(v, p, n));
        if (seldom(3)) {
            same("fewest(" + v + ")", x.fewest(v), m.fewest(v));
        }
    }

    public static void main(String[] args) {
        for (int run = 0; run < RUNS; run++) {
            PostStones x = new PostStones();
            Model m = new Model();
            calls = new ArrayList<>();
            steady = seldom(3);
            tell(x, m);
            int changes = x.fault(0) != 0 ? 3 : pick(4, steady ? 60 : 30);
            for (int i = 0; i < changes; i++) {
                change(x, m);
                if (seldom(3)) {
                    askRow(x, m);
                }
                if (seldom(4)) {
                    askLetters(x, m);
                }
                if (seldom(8)) {
                    askFollowing(x, m);
                }
                if (seldom(60)) {
                    tell(x, m);
                }
            }
        }
        Due.close();
    }
}
