import java.util.ArrayList;
import java.util.HashMap;
import java.util.List;
import java.util.Map;
import java.util.Random;

/**
 * 'DRAWN: the board with the same to move is there for the third time' (Terms, part 2): boards that differ
 * only in which KINDS stand on their POINTS are not the same one, whatever stands beside them.
 */
public final class DrawTests {
    private static final int WIDE = 5;
    private static final int POINTS = 25;
    private static final int NOTHING = -2;
    private static final int NONE = -1;
    private static final int DRAWN = 3;
    private static final String NAMES = "abcd";

    private static int move(int from, int to) {
        return 64 * from + to;
    }

    private static String stoneLine(int stone, int point, int wide) {
        return "stone " + NAMES.charAt(stone % 4) + " " + stone / 4 + " " + point % wide + " " + point / wide + ";";
    }

    private static String fourKinds(String steps) {
        StringBuilder s = new StringBuilder();
        for (int kind = 0; kind < 4; kind++) {
            s.append("kind ").append(NAMES.charAt(kind)).append(" leaps").append(steps).append(';');
        }
        return s.toString();
    }

    private static String step(int from, int to) {
        return " " + (to % WIDE - from % WIDE) + " " + (to / WIDE - from / WIDE);
    }

    /** The MOVES of these PLIES, those of each player in letters of six IFS. */
    private static void write(Game x, int[] moves, int first, int behind) {
        for (int ply = first; ply < behind; ply += 12) {
            for (int player = 0; player < 2; player++) {
                x.letter(player, ply, ply, NONE);
                for (int p = ply + player; p < Math.min(behind, ply + 12); p += 2) {
                    x.when(p, NONE, moves[p]);
                }
            }
        }
    }

    private static int freePoint(int[] cells) {
        for (int point = 0; point < POINTS; point++) {
            if (cells[point] == NOTHING) {
                return point;
            }
        }
        return NONE;
    }

    /** A point that is free together with the one at its right and the one below that. */
    private static int freeCorner(int[] cells) {
        for (int point = 0; point < POINTS - WIDE; point++) {
            boolean free = cells[point] == NOTHING && cells[point + 1] == NOTHING && cells[point + 1 + WIDE] == NOTHING;
            if (free && point % WIDE < WIDE - 1) {
                return point;
            }
        }
        return NONE;
    }

    private static boolean guard(int[] cells, int point, int stone) {
        boolean stands = point < POINTS && cells[point] == NOTHING;
        if (stands) {
            cells[point] = stone;
        }
        return stands;
    }

    /**
     * Stones of one player and of two KINDS change places, one by way of a third POINT, and then change back in
     * the same way; a stone of the other player goes round by three POINTS. Guards stand on the POINTS behind both.
     */
    private static void exchanged(int one, int two, int p, int q, int guard) {
        int[] cells = new int[POINTS];
        java.util.Arrays.fill(cells, NOTHING);
        cells[p] = one;
        cells[q] = two;
        guard(cells, p + 1, guard);
        guard(cells, q + 1, guard);
        int round = freeCorner(cells);
        cells[round] = 4 - one / 4 * 4;
        cells[round + 1] = POINTS;
        cells[round + 1 + WIDE] = POINTS;
        int aside = freePoint(cells);
        StringBuilder text = new StringBuilder("board 5 5;" + fourKinds(step(p, aside) + step(aside, q) + step(q, p) + " 1 0 0 1 -1 -1"));
        for (int point = 0; point < POINTS; point++) {
            if (cells[point] >= 0 && cells[point] < POINTS) {
                text.append(stoneLine(cells[point], point, WIDE));
            }
        }
        int[] changes = {move(p, aside), move(q, p), move(aside, q)};
        int[] others = {move(round, round + 1), move(round + 1, round + 1 + WIDE), move(round + 1 + WIDE, round)};
        int[] moves = new int[24];
        for (int ply = 0; ply < 24; ply++) {
            moves[ply] = ply % 2 == one / 4 ? changes[ply / 2 % 3] : others[ply / 2 % 3];
        }
        Game x = Game.told(text.toString());
        String what = " of " + text;
        write(x, moves, 0, 12);
        Due.due("plies(0), kinds changed places and changed back," + what, x.plies(0), 12);
        Due.due("end(0): the first board, for the second time only," + what, x.end(0), 0);
        Due.due("at(0, " + p + ")" + what, x.at(0, p), one);
        Due.due("at(0, " + q + ")" + what, x.at(0, q), two);
        write(x, moves, 12, 24);
        Due.due("plies(0), once more so," + what, x.plies(0), 24);
        Due.due("end(0): the first board, for the third time," + what, x.end(0), DRAWN);
    }

    /** All pairs of KINDS of a player on all pairs of POINTS, with each stone that there is as their guard. */
    private static void allExchanges() {
        int guard = 0;
        for (int p = 0; p < POINTS; p++) {
            for (int q = p + 1; q < POINTS; q++) {
                for (int pair = 0; pair < 16; pair++) {
                    int one = pair / 4;
                    int two = pair % 4;
                    if (one < two) {
                        // the POINTS that are side by side get every guard, the others get them by turns
                        int guards = q == p + 1 || q == p + WIDE ? 8 : 3;
                        for (int i = 0; i < guards; i++) {
                            exchanged(one, two, p, q, guard % 8);
                            exchanged(one + 4, two + 4, p, q, guard % 8);
                            guard++;
                        }
                    }
                }
            }
        }
    }

    /** Two of each player change KINDS at once, so that no KIND is missing on either board. */
    private static void bothChange() {
        String crossers = " 1 0 -1 0 0 1 0 -1";
        for (int mine = 0; mine < 16; mine++) {
            for (int others = 0; others < 16; others++) {
                if (mine / 4 != mine % 4 && others / 4 != others % 4) {
                    String text = "board 2 4;" + fourKinds(crossers) + stoneLine(mine / 4, 0, 2) + stoneLine(mine % 4, 1, 2)
                        + stoneLine(4 + others / 4, 6, 2) + stoneLine(4 + others % 4, 7, 2);
                    changeAtOnce(text, mine);
                }
            }
        }
    }

    /** By four MOVES each: round the corners of two by two POINTS, always the same way. */
    private static void changeAtOnce(String text, int mine) {
        int[] zero = {move(1, 3), move(0, 1), move(3, 2), move(2, 0)};
        int[] one = {move(7, 5), move(6, 7), move(5, 4), move(4, 6)};
        int[] moves = new int[32];
        for (int ply = 0; ply < 32; ply++) {
            moves[ply] = ply % 2 == 0 ? zero[ply / 2 % 4] : one[ply / 2 % 4];
        }
        Game x = Game.told(text);
        write(x, moves, 0, 24);
        Due.due("plies(0), both changed three times, of " + text, x.plies(0), 24);
        Due.due("end(0): the changed board, for the second time only, of " + text, x.end(0), 0);
        Due.due("at(0, 0) of " + text, x.at(0, 0), mine % 4);
        write(x, moves, 24, 32);
        Due.due("plies(0), both changed four times, of " + text, x.plies(0), 32);
        Due.due("end(0): the first board, for the third time, of " + text, x.end(0), DRAWN);
    }

    private static final int[][] ASIDE = {{1, 0}, {-1, 0}, {0, 1}, {0, -1}, {1, 1}, {-1, -1}};

    private static List<Integer> quietMoves(int[] cells, int wide, int player) {
        List<Integer> found = new ArrayList<>();
        for (int from = 0; from < cells.length; from++) {
            for (int[] step : ASIDE) {
                int x = from % wide + step[0];
                int y = from / wide + step[1];
                boolean on = x >= 0 && x < wide && y >= 0 && y < cells.length / wide;
                if (on && cells[from] >= 0 && cells[from] / 4 == player && cells[y * wide + x] == NOTHING) {
                    found.add(move(from, y * wide + x));
                }
            }
        }
        return found;
    }

    private static String written(int[] cells, int made) {
        StringBuilder s = new StringBuilder(made % 2 + ":");
        for (int stone : cells) {
            s.append(' ').append(stone);
        }
        return s.toString();
    }

    /** How often the board would have been there, if a MOVE were made on it. */
    private static int timesBehind(Map<String, Integer> times, int[] cells, int made, int move) {
        int[] then = cells.clone();
        then[move % 64] = then[move / 64];
        then[move / 64] = NOTHING;
        return times.getOrDefault(written(then, made + 1), 0) + 1;
    }

    /** Nothing is taken on the way; no board comes for the third time, but if it has to or at the very end. */
    private static void walk(Random dice) {
        int wide = 2 + dice.nextInt(2);
        int high = 2 + dice.nextInt(3);
        int[] cells = new int[wide * high];
        java.util.Arrays.fill(cells, NOTHING);
        StringBuilder text = new StringBuilder("board " + wide + " " + high + ";" + fourKinds(" 1 0 -1 0 0 1 0 -1 1 1 -1 -1") + "law takes = 0;");
        int stones = Math.min(8, wide * high - 1 - dice.nextInt(2));
        for (int i = 0; i < stones; i++) {
            int point = dice.nextInt(cells.length);
            if (cells[point] == NOTHING) {
                cells[point] = dice.nextInt(4) + 4 * (i % 2);
                text.append(stoneLine(cells[point], point, wide));
            }
        }
        int[] moves = new int[60];
        Map<String, Integer> times = new HashMap<>();
        times.put(written(cells, 0), 1);
        int made = 0;
        int end = quietMoves(cells, wide, 0).isEmpty() ? 2 : 0;
        for (int budget = 4 + dice.nextInt(90); end == 0 && budget > made; made++) {
            List<Integer> open = quietMoves(cells, wide, made % 2);
            int move = open.get(dice.nextInt(open.size()));
            for (int i = 0; i < 20 && timesBehind(times, cells, made, move) > 2; i++) {
                move = open.get(dice.nextInt(open.size()));
            }
            moves[made] = move;
            int seen = timesBehind(times, cells, made, move);
            cells[move % 64] = cells[move / 64];
            cells[move / 64] = NOTHING;
            times.put(written(cells, made + 1), seen);
            boolean lost = quietMoves(cells, wide, (made + 1) % 2).isEmpty();
            end = lost ? 1 + made % 2 : seen > 2 || made + 1 == 60 ? DRAWN : 0;
        }
        Game x = Game.told(text.toString());
        write(x, moves, 0, made);
        Due.due("plies(0) of a walk with " + text, x.plies(0), made);
        Due.due("end(0) of a walk with " + text, x.end(0), end);
        for (int point = 0; point < cells.length; point++) {
            Due.due("at(0, " + point + ") of a walk with " + text, x.at(0, point), cells[point]);
        }
    }

    public static void main(String[] args) {
        allExchanges();
        bothChange();
        Random dice = new Random(13);
        for (int i = 0; i < 3000; i++) {
            walk(dice);
        }
        Due.close();
    }
}
