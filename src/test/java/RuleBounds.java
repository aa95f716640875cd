import java.util.ArrayList;
import java.util.List;

/** The bounds of what is lawful and of ends: part 2 of the terms, promises 13 to 21. */
final class RuleBounds {
    private static final int[][] STAR = {{1, 0}, {1, 1}, {0, 1}, {-1, 1}, {-1, 0}, {-1, -1}, {0, -1}, {1, -1}};
    private static final int[] NO_VIEWS = {-1, 4, Bounds.MIN, Bounds.MAX};

    private RuleBounds() { }

    private static void terms(String words) {
        Bounds.sentence(Bounds.TERMS, words);
    }

    private static int move(int from, int to) {
        return 64 * from + to;
    }

    private static void lawful(Game x, String what, List<Integer> moves) {
        Bounds.due("moves(0) of " + what, x.moves(0), moves.size());
        for (int k = 0; k < moves.size(); k++) {
            Bounds.due("move(0, " + k + ") of " + what, x.move(0, k), moves.get(k));
        }
    }

    private static void lawful(String text, Integer... moves) {
        lawful(Game.told(text), text, List.of(moves));
    }

    private static String star(String sort) {
        StringBuilder s = new StringBuilder("kind s " + sort);
        for (int[] step : STAR) {
            s.append(' ').append(step[0]).append(' ').append(step[1]);
        }
        return s + ";";
    }

    /** One stone alone on each point of each board: all that it can reach, by its steps as told. */
    private static void alone(String sort, int times) {
        for (int wide = 2; wide <= 5; wide++) {
            for (int high = 2; high <= 5; high++) {
                for (int from = 0; from < wide * high; from++) {
                    int x = from % wide;
                    int y = from / wide;
                    String text = "board " + wide + " " + high + ";" + star(sort) + "stone s 0 " + x + " " + y + ";";
                    List<Integer> due = new ArrayList<>();
                    for (int[] step : STAR) {
                        for (int far = 1; far <= times; far++) {
                            int toX = x + far * step[0];
                            int toY = y + far * step[1];
                            if (toX >= 0 && toX < wide && toY >= 0 && toY < high) {
                                due.add(move(from, toY * wide + toX));
                            }
                        }
                    }
                    lawful(Game.told(text), text, due);
                }
            }
        }
    }

    private static void first() {
        terms("Player 0 moves first. A MOVE: 64 times the POINT from and that to.");
        Game x = Game.told("board 5 5;kind a leaps -4 -4 1 0;stone a 1 0 0;stone a 0 4 4;");
        Bounds.due("turn(0)", x.turn(0), 0);
        Bounds.due("move(0, 0)", x.move(0, 0), 24 * 64);
        Bounds.due("moves(0)", x.moves(0), 1);
    }

    private static void ways() {
        terms("LAWFUL: a stone of whoever is to move, by a step of its KIND (runs: by one of its steps 1 .. 4 times), on the board,");
        alone("leaps", 1);
        alone("runs", 4);
        String two = "board 5 2;kind a leaps 1 0;stone a 0 0 0;stone a 1 3 0;";
        Object[][] tries = {{move(0, 1), 1}, {move(3, 4), 0}, {move(1, 2), 0}, {move(0, 2), 0}, {move(0, 5), 0}, {move(0, 0), 0},
            {move(10, 11), 0}, {move(63, 63), 0}, {4095, 0}, {0, 0}};
        for (Object[] t : tries) {
            Game x = Game.told(two);
            x.letter(0, 0, 0, -1);
            x.when(0, -1, (Integer) t[0]);
            Bounds.due("plies(0) of " + t[0], x.plies(0), (Integer) t[1]);
            Bounds.due("sure(0, 0, " + t[0] + ", 0)", Game.told(two).sure(0, 0, (Integer) t[0], 0), (Integer) t[1]);
        }
        lawful("board 5 2;kind a leaps 1 0;stone a 0 4 0;stone a 0 3 1;", move(8, 9));
        lawful("board 5 2;kind a leaps -1 0;stone a 0 0 1;stone a 0 1 0;", move(1, 0));
        lawful("board 5 5;kind a runs 1 1;stone a 0 0 0;", move(0, 6), move(0, 12), move(0, 18), move(0, 24));
        terms("leaps: once so; runs: as often as wanted, as long as all POINTS by fewer times are on the board and empty.");
        lawful("board 5 2;kind a leaps 1 0;stone a 0 0 0;", move(0, 1));
        lawful("board 5 2;kind a leaps 3 0;kind b leaps 0 4;stone a 0 0 0;stone b 1 1 0;stone b 0 2 0;", move(0, 3));
        for (int block = 1; block <= 4; block++) {
            for (int player = 0; player < 2; player++) {
                String row = "board 5 2;kind a runs 1 0;kind b leaps 0 4;stone a 0 0 0;stone b " + player + " " + block + " 0;";
                List<Integer> due = new ArrayList<>();
                for (int to = 1; to < block + player; to++) {
                    due.add(move(0, to));
                }
                lawful(Game.told(row), row, due);
            }
        }
        lawful("board 5 2;kind a runs 2 0;stone a 0 0 0;stone a 1 1 0;stone a 1 3 0;", move(0, 2), move(0, 4));
    }

    private static void takings() {
        terms("not to one's own stone (one of the other's is taken), and the law's E isn't 0 (without a law, with an ERROR: it isn't).");
        lawful("kind a leaps 1 0;stone a 0 0 0;stone a 0 1 0;", move(1, 2));
        lawful("kind a leaps 1 0;stone a 0 0 0;stone a 1 1 0;", move(0, 1));
        Game x = Game.told("kind a leaps 1 0 0 1;kind b leaps 1 0 0 1;stone a 0 0 0;stone b 1 1 0;stone b 1 0 1;");
        x.letter(0, 0, 0, -1);
        x.when(0, -1, 1);
        Bounds.due("at(0, 1): the taker", x.at(0, 1), 0);
        Bounds.due("at(0, 0): nothing", x.at(0, 0), -2);
        Bounds.due("moves(0): the other has one stone left", x.moves(0), 2);
        Object[][] laws = {{"0", 0}, {"1", 1}, {"0-1", 1}, {"9999*9999", 1}, {"1-1", 0}, {"1/0", 1}, {"0/0", 1}, {"0*(1/0)", 1},
            {"9999*9999*9999*9999", 1}, {"0 and 1/0", 1}, {"not 1", 0}, {"1/2", 0}, {"(0-1)/2", 0}};
        for (Object[] law : laws) {
            Game y = Game.told("kind a leaps 1 0;stone a 0 0 0;law " + law[0] + ";");
            Bounds.due("moves(0) by law " + law[0], y.moves(0), (Integer) law[1]);
        }
        Bounds.due("moves(0) without a law", Game.told("kind a leaps 1 0;stone a 0 0 0;").moves(0), 1);
    }

    /** The law's E of the MOVE from point 0 to a point of a board of 5 by 5, where player 0's stone runs ahead. */
    private static void named(String name, String stones, int to, long due) {
        Game x = Game.told("board 5 5;kind a runs 1 0 0 1;kind b leaps 1 1 king;" + stones + "law " + name + ";");
        Bounds.due("law(0, " + to + ") of " + name + " with " + stones, x.law(0, to), due);
    }

    private static void names() {
        String a = "stone a 0 0 0;";
        terms("NAMES: takes: 1, if one is taken;");
        named("takes", a, 1, 0);
        named("takes", a + "stone a 1 1 0;", 1, 1);
        named("takes", a + "stone a 0 1 0;", 1, 0);
        named("takes", a + "stone a 1 1 0;", 2, 0);
        terms("far: how many times the step;");
        for (int far = 1; far <= 4; far++) {
            named("far", a, far, far);
            named("far", a, 5 * far, far);
        }
        Bounds.due("law(0, 2) of far with steps of 2", Game.told("kind a leaps 2 0;stone a 0 0 0;law far;").law(0, 2), 1);
        terms("row: how many rows the POINT to is from one's own (player 0's is y 0, player 1's the last);");
        for (int y = 0; y < 5; y++) {
            named("row", "stone b 0 0 0;" + a.replace("0 0 0", "0 1 0"), 6, 1);
            named("row", a, 5 * y == 0 ? 4 : 5 * y, y);
        }
        for (int high = 2; high <= 5; high++) {
            for (int y = 0; y < high - 1; y++) {
                Game x = Game.told("board 2 " + high + ";kind a runs 1 0 0 -1;stone a 0 0 0;stone a 1 0 " + (high - 1) + ";law row + 1;");
                x.letter(0, 0, 0, -1);
                x.when(0, -1, 1);
                Bounds.due("law() of player 1 to y " + y + " of " + high, x.law(0, move(2 * (high - 1), 2 * y)), high - y);
                Bounds.due("law() of player 1 along its own row", x.law(0, move(2 * (high - 1), 2 * high - 1)), 1);
            }
        }
        terms("kind: its number;");
        named("kind", a, 1, 0);
        named("kind", "stone b 0 0 0;", 6, 1);
        // each stone's own KIND, whichever of them was asked for ahead
        Game both = Game.told("kind a leaps 1 0;kind b leaps 1 0 king;stone b 0 0 0;stone a 0 0 1;stone b 1 0 2;law 10 * kind + king + 7;");
        int[][] asked = {{0, 18}, {3, 7}, {0, 18}, {0, 18}, {3, 7}, {3, 7}};
        for (int[] one : asked) {
            Bounds.due("law() of the stone on " + one[0], both.law(0, move(one[0], one[0] + 1)), one[1]);
        }
        Bounds.due("law() of the fourth KIND", Game.told("kind a leaps 1 0;kind b leaps 1 0;kind c leaps 1 0;kind d leaps 1 0;"
            + "stone d 0 0 0;law kind;").law(0, 1), 3);
        terms("king: 1, if the KIND is a king.");
        named("king", a, 1, 0);
        named("king", "stone b 0 0 0;", 6, 1);
    }

    private static void numbers() {
        terms("stones, others: how many stones one has, the other;");
        for (int mine = 1; mine <= 8; mine++) {
            StringBuilder s = new StringBuilder();
            for (int i = 0; i < 8; i++) {
                s.append("stone a ").append(i < mine ? 0 : 1).append(' ').append(i % 5).append(' ').append(i / 5 * 4).append(';');
            }
            named("10 * stones + others", s.toString(), 5, 9 * mine + 8);
        }
        Game x = Game.told("kind a leaps 1 0 -1 0;stone a 0 0 0;stone a 1 1 0;stone a 1 1 2;law 10 * stones + others;");
        Bounds.due("law(0, 1): ahead of what it takes", x.law(0, 1), 12);
        x.letter(0, 0, 0, -1);
        x.when(0, -1, 1);
        Bounds.due("law() of player 1 behind it", x.law(0, move(7, 8)), 11);
        Game more = behind("kind a leaps 1 0;stone a 0 0 0;stone a 0 0 1;stone a 1 0 2;stone a 1 1 2;stone a 1 1 1;law 10 * stones + others;", 1);
        Bounds.due("law() where player 1 is to move", more.law(0, move(4, 5)), 32);
        Bounds.due("law() of another one of the three", more.law(1, move(7, 8)), 32);
        more.undo();
        Bounds.due("law() where player 0 is to move", more.law(0, 1), 23);
        terms("ply: how many MOVES there were;");
        Game sixty = sixty("law ply + 1;", 60);
        Bounds.due("law() behind 60 MOVES", sixty.law(0, move(12, 13)), 61);
        sixty.undo();
        Bounds.due("law() behind 59 MOVES", sixty.law(0, move(21, 20)), 60);
        Bounds.due("law() behind none", Game.told("kind a leaps 1 0;stone a 0 0 0;law ply;").law(0, 1), 0);
    }

    private static void worth(String law, long due) {
        named(law, "stone a 0 0 0;", 1, due);
    }

    private static void values() {
        terms("VALUES are longs; comparisons, and, or, not are 1 or 0 (what isn't 0 is as 1, both sides are worked out), / is cut towards 0;");
        worth("9999 * 9999 * 9999", 999700029999L);
        worth("7 < 8", 1);
        worth("8 < 8", 0);
        worth("8 <= 8", 1);
        worth("7 <= 8", 1);
        worth("9 <= 8", 0);
        worth("8 = 8", 1);
        worth("8 = 9", 0);
        worth("8 <> 9", 1);
        worth("8 <> 8", 0);
        worth("8 >= 8", 1);
        worth("9 >= 8", 1);
        worth("7 >= 8", 0);
        worth("9 > 8", 1);
        worth("8 > 8", 0);
        worth("0 - 9 < 0 - 8", 1);
        worth("7 and 9", 1);
        worth("2 and 1", 1);
        worth("2 and (0 - 1)", 1);
        worth("0 and 9", 0);
        worth("9 and 0", 0);
        worth("0 or 9", 1);
        worth("(0 - 9) or 0", 1);
        worth("0 or 0", 0);
        worth("not 2", 0);
        worth("not (0 - 1)", 0);
        worth("not 0", 1);
        worth("1 or 1 / 0", Bounds.ERROR);
        worth("1 / 0 or 1", Bounds.ERROR);
        worth("0 and 1 / 0", Bounds.ERROR);
        worth("not (1 / 0)", Bounds.ERROR);
        worth("7 / 2", 3);
        worth("(0 - 7) / 2", -3);
        worth("7 / (0 - 2)", -3);
        worth("(0 - 7) / (0 - 2)", 3);
        worth("1 / 2", 0);
        worth("(0 - 1) / 2", 0);
        terms("ERROR: / by 0, a value above 10 to the 12 or below 0 by more than that.");
        worth("0 / 0", Bounds.ERROR);
        worth("5 / (3 - 3)", Bounds.ERROR);
        worth("0 / 5", 0);
        String most = "1000 * 1000 * 1000 * 1000";
        worth(most, 1000000000000L);
        worth(most + " + 1", Bounds.ERROR);
        worth(most + " + 1 - 1", Bounds.ERROR);
        worth(most + " - 1 + 1", 1000000000000L);
        worth("0 - " + most, -1000000000000L);
        worth("0 - " + most + " - 1", Bounds.ERROR);
        worth("(0 - 1000) * 1000 * 1000 * 1000", -1000000000000L);
        worth("1000 * 1000 * 1000 * (0 - 1000)", -1000000000000L);
        worth("1000 * 1000 * 1000 * (0 - 1001)", Bounds.ERROR);
        worth("(0 - 1001) * 1000 * 1000 * 1000", Bounds.ERROR);
        worth("(0 - 1000 * 1000 * 1000) * (0 - 1000)", 1000000000000L);
        worth("(0 - 1000 * 1000 * 1000) * (0 - 1001)", Bounds.ERROR);
        worth("1000 * 1000 * 1000 * 1001 * 0", Bounds.ERROR);
        worth("0 * (1000 * 1000 * 1000 * 1001)", Bounds.ERROR);
        worth("0 < 1000 * 1000 * 1000 * 1001", Bounds.ERROR);
        // as longs alone these products would be 0 and 1
        worth("4096 * 4096 * 256 * (4096 * 4096 * 256)", Bounds.ERROR);
        worth("(0 - 4096 * 4096 * 256) * (4096 * 4096 * 256)", Bounds.ERROR);
        worth("4096 * 4096 * 256 * (0 - 4096 * 4096 * 256)", Bounds.ERROR);
        worth("(0 - 4096 * 4096 * 256) * (0 - 4096 * 4096 * 256)", Bounds.ERROR);
        worth("4096 * 4096 * 1024 * (4096 * 4096 * 64)", Bounds.ERROR);
        worth("4096 * 4096 * 64 * (4096 * 4096 * 1024)", Bounds.ERROR);
        worth("641 * (6700 * 100 * 100 * 100 + 417) * 1", Bounds.ERROR);
        worth(most + " * (0 - 1)", -1000000000000L);
        worth(most + " / 1 * 1", 1000000000000L);
        worth(most + " * 0", 0);
    }

    private static void order() {
        terms("MOVES in order: by POINTS from, by steps as told (runs: the nearest first), each once.");
        lawful("kind a leaps 0 1 1 0;stone a 0 1 1;stone a 0 0 0;", move(0, 3), move(0, 1), move(4, 7), move(4, 5));
        lawful("board 5 2;kind a runs -1 0 1 0;stone a 0 2 0;", move(2, 1), move(2, 0), move(2, 3), move(2, 4));
        lawful("kind a leaps 1 0 0 1 1 0 1 0;stone a 0 0 0;", move(0, 1), move(0, 3));
        lawful("board 5 2;kind a runs 2 0 1 0;stone a 0 0 0;", move(0, 2), move(0, 4), move(0, 1), move(0, 3));
        lawful("board 5 2;kind a runs 1 0 2 0;stone a 0 0 0;", move(0, 1), move(0, 2), move(0, 3), move(0, 4));
        // by the second of its steps, if only that way is free or lawful
        lawful("board 5 2;kind a runs 1 0 2 0;stone a 0 0 0;stone a 1 1 0;", move(0, 1), move(0, 2), move(0, 4));
        lawful("board 5 2;kind a runs 1 0 2 0;law far = 1;stone a 0 0 0;", move(0, 1), move(0, 2));
    }

    private static final String KINGS = "board 3 3;kind k leaps 1 0 -1 0 king;kind a leaps 1 0 -1 0 0 1;";

    private static Game behind(String text, int move) {
        Game x = Game.told(text);
        x.letter(0, 0, 0, -1);
        x.when(0, -1, move);
        return x;
    }

    private static void lost() {
        terms("END: who is to move and has no king (if any KIND is a king and the text gave them one at first), or no LAWFUL MOVE, has lost;");
        String taken = KINGS + "stone a 0 0 0;stone k 1 1 0;stone a 1 0 2;";
        Bounds.due("end(0): player 0 was given no king", Game.told(taken).end(0), 0);
        Bounds.due("end(0): player 1's only king is taken", behind(taken, 1).end(0), 1);
        Bounds.due("end(0): he has it still", behind(taken, 3).end(0), 0);
        Bounds.due("end(0): he has another one", behind(taken + "stone k 1 2 2;", 1).end(0), 0);
        Bounds.due("end(0): none was given", behind(taken.replace("stone k", "stone a"), 1).end(0), 0);
        Bounds.due("end(0): no KIND is one", behind(taken.replace(" king;", ";"), 1).end(0), 0);
        Game twice = Game.told(taken);
        twice.letter(0, 0, 0, -1);
        for (int time = 0; time < 3; time++) {
            Bounds.due("end(0) ahead of it", twice.end(0), 0);
            twice.when(0, -1, 1);
            Bounds.due("end(0): the king is taken, asked for once more", twice.end(0), 1);
            twice.undo();
        }
        Game zero = Game.told(KINGS + "stone k 0 0 0;stone a 0 1 1;stone a 1 2 0;");
        zero.letter(0, 0, 0, -1);
        zero.when(0, -1, move(0, 1));
        zero.letter(1, 0, 0, -1);
        zero.when(1, -1, move(2, 1));
        Bounds.due("end(0): player 0's king is taken", zero.end(0), 2);
        Bounds.due("moves(0) of who has lost it", zero.moves(0), 0);
        Bounds.due("end(0) without stones", new Game().end(0), 2);
        String edge = "kind a leaps 1 0;stone a 0 1 0;stone a 1 ";
        Bounds.due("end(0): player 1 has a LAWFUL MOVE", behind(edge + "1 1;", move(1, 2)).end(0), 0);
        Bounds.due("end(0): player 1 has none", behind(edge + "2 1;", move(1, 2)).end(0), 1);
        Bounds.due("end(0): player 1 has no stone left", behind(edge + "2 0;", move(1, 2)).end(0), 1);
        Bounds.due("end(0): player 0 has none", Game.told("kind a leaps 1 0;stone a 0 2 0;stone a 1 0 1;").end(0), 2);
        Bounds.due("end(0): the law leaves none", behind(edge + "1 1;law ply < 1;", move(1, 2)).end(0), 1);
    }

    /** Two stones to and fro: the first board comes again behind each four MOVES. */
    static Game again(String law, int plies) {
        Game x = Game.told("kind a leaps 1 0 -1 0;stone a 0 0 0;stone a 1 0 2;" + law);
        int[] moves = {move(0, 1), move(6, 7), move(1, 0), move(7, 6)};
        for (int player = 0; player < 2; player++) {
            x.letter(player, 0, 0, -1);
            for (int ply = player; ply < plies; ply += 2) {
                x.when(ply, -1, moves[ply % 4]);
            }
        }
        return x;
    }

    private static void drawn() {
        terms("asked first; DRAWN: the board with the same to move is there for the third time, or 60 MOVES were made.");
        Bounds.due("end(0): the second time", again("", 4).end(0), 0);
        Bounds.due("end(0): one MOVE short of the third", again("", 7).end(0), 0);
        Bounds.due("end(0): the third time", again("", 8).end(0), 3);
        Bounds.due("plies(0): nothing is behind it", again("", 10).plies(0), 8);
        Bounds.due("end(0): no LAWFUL MOVE is asked first", again("law ply < 8;", 8).end(0), 2);
        for (int point = 0; point < 25; point++) {
            gone(point);
        }
        for (int[] kinds : new int[][] {{0, 1}, {0, 2}, {0, 3}, {1, 2}, {1, 3}, {2, 3}}) {
            exchanged(kinds[0], kinds[1]);
        }
        for (int kind = 0; kind < 4; kind++) {
            crossed(kind);
        }
        Bounds.due("end(0) of 59", sixty("", 59).end(0), 0);
        Bounds.due("moves(0) of 59", sixty("", 59).moves(0) > 0 ? 1 : 0, 1);
        Bounds.due("plies(0) of 60", sixty("", 60).plies(0), 60);
        Bounds.due("end(0) of 60", sixty("", 60).end(0), 3);
        Bounds.due("moves(0) of 60", sixty("", 60).moves(0), 0);
        Bounds.due("end(0) of 60: no LAWFUL MOVE is asked first", sixty("law ply < 60;", 60).end(0), 2);
        tempo();
    }

    /** A row of MOVES, those of each player in letters of six IFS. */
    private static Game played(String text, int... moves) {
        Game x = Game.told(text);
        for (int first = 0; first < moves.length; first += 12) {
            for (int player = 0; player < 2; player++) {
                x.letter(player, first, first, -1);
                for (int ply = first + player; ply < Math.min(moves.length, first + 12); ply += 2) {
                    x.when(ply, -1, moves[ply]);
                }
            }
        }
        return x;
    }

    /** The first board comes again twice, but without the stone that was taken on a point: it isn't the same. */
    private static void gone(int point) {
        int x = point % 5;
        int from = x < 4 ? point + 1 : point - 1;
        int aside = point < 5 ? 20 : 0;
        String text = "board 5 5;kind a leaps 1 0 -1 0;stone a 0 " + from % 5 + " " + from / 5 + ";stone a 1 " + x + " " + point / 5
            + ";stone a 1 0 " + aside / 5 + ";";
        int[] round = {move(from, point), move(aside, aside + 1), move(point, from), move(aside + 1, aside)};
        int[] moves = new int[10];
        for (int ply = 0; ply < 10; ply++) {
            moves[ply] = round[ply % 4];
        }
        Game y = played(text, moves);
        Bounds.due("plies(0) with one taken on " + point, y.plies(0), 9);
        Bounds.due("end(0) with one taken on " + point, y.end(0), 3);
        Bounds.due("at(0, " + point + "): the taker, for the third time", y.at(0, point), 0);
        y.undo();
        Bounds.due("end(0) with one taken on " + point + ", one MOVE ahead", played(text, java.util.Arrays.copyOf(moves, 8)).end(0), 0);
    }

    private static String fourCrossers() {
        StringBuilder s = new StringBuilder("board 3 5;");
        for (char kind = 'a'; kind <= 'd'; kind++) {
            s.append("kind ").append(kind).append(" runs 1 0 -1 0 0 1 1 -1 -1 -1;");
        }
        return s.toString();
    }

    /** Stones of two KINDS change places and change back: between, the board isn't the same. */
    private static void exchanged(int one, int two) {
        String text = fourCrossers() + "stone " + (char) ('a' + one) + " 0 0 0;stone " + (char) ('a' + two) + " 0 1 0;stone a 1 0 4;";
        int[] own = {move(0, 3), move(1, 0), move(3, 1)};
        int[] others = {move(12, 13), move(13, 14), move(14, 12)};
        int[] moves = new int[12];
        for (int ply = 0; ply < 12; ply++) {
            moves[ply] = ply % 2 == 0 ? own[ply / 2 % 3] : others[ply / 2 % 3];
        }
        Game x = played(text, moves);
        Bounds.due("plies(0) with kinds " + one + ", " + two + " changing places", x.plies(0), 12);
        Bounds.due("end(0): the first board, for the second time only", x.end(0), 0);
        Bounds.due("at(0, 0)", x.at(0, 0), one);
        Bounds.due("at(0, 1)", x.at(0, 1), two);
    }

    /** Stones of one KIND, but of two players, change places and change back. */
    private static void crossed(int kind) {
        String name = " " + (char) ('a' + kind);
        String text = fourCrossers() + "stone" + name + " 0 0 0;stone" + name + " 1 1 0;";
        int[] moves = {move(0, 3), move(1, 4), move(3, 1), move(4, 0), move(1, 4), move(0, 3), move(4, 0), move(3, 1)};
        Game x = played(text, moves);
        Bounds.due("plies(0) with players changing places", x.plies(0), 8);
        Bounds.due("end(0): the first board, for the second time only", x.end(0), 0);
        int[] twice = java.util.Arrays.copyOf(moves, 16);
        System.arraycopy(moves, 0, twice, 8, 8);
        Game y = played(text, twice);
        Bounds.due("plies(0) with players changing places twice", y.plies(0), 16);
        Bounds.due("end(0): the first board, for the third time", y.end(0), 3);
    }

    /** The same board with the other to move is another: one goes round by three MOVES, the other by two. */
    private static void tempo() {
        Game x = Game.told("board 3 2;kind a runs 1 0 -1 0;stone a 0 0 0;stone a 1 0 1;");
        int[] three = {move(0, 1), move(1, 2), move(2, 0)};
        int[] two = {move(0, 1), move(1, 0)};
        int[] moves = new int[20];
        for (int ply = 0; ply < 20; ply++) {
            boolean round = ply % 10 < 5 == (ply % 2 == 0);
            int step = ply % 10 < 5 ? ply % 10 / 2 : (ply % 10 - 5) / 2;
            int move = round ? three[step] : two[step];
            moves[ply] = ply % 2 == 0 ? move : move + move(3, 3);
        }
        for (int letter = 0; letter < 4; letter++) {
            x.letter(letter % 2, letter, letter, -1);
            for (int ply = letter / 2 * 10 + letter % 2; ply < letter / 2 * 10 + 10; ply += 2) {
                x.when(ply, -1, moves[ply]);
            }
            if (letter == 1) {
                Bounds.due("plies(0): the first board, twice with player 0 to move, once with player 1", x.plies(0), 10);
                Bounds.due("end(0)", x.end(0), 0);
            }
        }
        Bounds.due("plies(0): the first board, three times with player 0 to move", x.plies(0), 20);
        Bounds.due("end(0)", x.end(0), 3);
    }

    /** Player 0 goes round by 20 points, player 1 to and fro: no board is there more than twice. */
    static Game sixty(String law, int plies) {
        Game x = Game.told("board 5 5;kind a leaps 1 0 -1 0 0 1 0 -1;stone a 0 0 0;stone a 1 0 4;" + law);
        int[] round = {0, 1, 2, 3, 4, 9, 8, 7, 6, 11, 12, 13, 14, 19, 18, 17, 16, 15, 10, 5};
        for (int half = 0; half < 5; half++) {
            for (int player = 0; player < 2; player++) {
                x.letter(player, 0, 0, -1);
                for (int i = 6 * half; i < 6 * half + 6 && 2 * i + player < plies; i++) {
                    int own = move(round[i % 20], round[(i + 1) % 20]);
                    x.when(2 * i + player, -1, player == 0 ? own : i % 2 == 0 ? move(20, 21) : move(21, 20));
                }
            }
        }
        return x;
    }

    /** Three MOVES by two letters, of which player 0 knows one MOVE on day 5, player 1 all. */
    private static Game three() {
        Game x = Game.told("kind k leaps 1 0 -1 0 0 1 0 -1 king;kind r runs 0 1 0 -1;stone k 0 0 0;stone r 0 2 0;stone k 1 0 2;law ply + 7;");
        x.letter(0, 1, 4, -1);
        x.when(0, -1, move(2, 5));
        x.when(2, move(6, 7), move(5, 8));
        x.letter(1, 5, 8, 0);
        x.when(1, -1, move(6, 7));
        x.day(5);
        return x;
    }

    private static void rows() {
        Bounds.promise(13, "How many MOVES the ROW of a VIEW has;");
        Game x = three();
        int[] plies = {3, 1, 3, 1};
        for (int view = 0; view < 4; view++) {
            Bounds.due("plies(" + view + ")", x.plies(view), plies[view]);
        }
        Bounds.due("plies(0) of none", new Game().plies(0), 0);
        Bounds.due("plies(3) of none", new Game().plies(3), 0);
        Bounds.promise(13, "NONE: no such VIEW.");
        for (int view : NO_VIEWS) {
            Bounds.due("plies(" + view + ")", x.plies(view), Bounds.NONE);
        }
        Bounds.promise(14, "The k-th MOVE of it;");
        int[] moves = {move(2, 5), move(6, 7), move(5, 8)};
        for (int k = 0; k < 3; k++) {
            Bounds.due("row(0, " + k + ")", x.row(0, k), moves[k]);
        }
        Bounds.due("row(1, 0)", x.row(1, 0), moves[0]);
        Bounds.promise(14, "NONE: no such ones.");
        Bounds.due("row(0, 3)", x.row(0, 3), Bounds.NONE);
        Bounds.due("row(1, 1)", x.row(1, 1), Bounds.NONE);
        Bounds.due("row(0, -1)", x.row(0, -1), Bounds.NONE);
        Bounds.due("row(0, MIN)", x.row(0, Bounds.MIN), Bounds.NONE);
        Bounds.due("row(0, MAX)", x.row(0, Bounds.MAX), Bounds.NONE);
        Bounds.due("row(0, 0) of none", new Game().row(0, 0), Bounds.NONE);
        Bounds.due("row(0, 59) of 60", sixty("", 60).row(0, 59), move(21, 20));
        Bounds.due("row(0, 60) of 60", sixty("", 60).row(0, 60), Bounds.NONE);
        for (int view : NO_VIEWS) {
            Bounds.due("row(" + view + ", 0)", x.row(view, 0), Bounds.NONE);
        }
        Bounds.promise(15, "By which letter the k-th MOVE was PLAYED;");
        for (int k = 0; k < 3; k++) {
            Bounds.due("by(0, " + k + ")", x.by(0, k), k % 2);
        }
        Bounds.due("by(0, 59) of 60", sixty("", 60).by(0, 59), 9);
        Bounds.promise(15, "NONE: no such ones.");
        Bounds.due("by(0, 3)", x.by(0, 3), Bounds.NONE);
        Bounds.due("by(1, 1)", x.by(1, 1), Bounds.NONE);
        Bounds.due("by(0, -1)", x.by(0, -1), Bounds.NONE);
        Bounds.due("by(0, MIN)", x.by(0, Bounds.MIN), Bounds.NONE);
        Bounds.due("by(0, MAX)", x.by(0, Bounds.MAX), Bounds.NONE);
        Bounds.due("by(0, 60) of 60", sixty("", 60).by(0, 60), Bounds.NONE);
        for (int view : NO_VIEWS) {
            Bounds.due("by(" + view + ", 0)", x.by(view, 0), Bounds.NONE);
        }
    }

    private static void boards() {
        Game x = three();
        Bounds.promise(16, "What stands on a POINT behind the ROW, its KIND and 4 times the player; -2: nothing;");
        int[][] boards = {{0, -2, -2, -2, -2, -2, -2, 4, 1}, {0, -2, -2, -2, -2, 1, 4, -2, -2}};
        for (int view = 0; view < 2; view++) {
            for (int point = 0; point < 9; point++) {
                Bounds.due("at(" + view + ", " + point + ")", x.at(view, point), boards[view][point]);
            }
        }
        String four = "kind a leaps 1 0;kind b leaps 1 0;kind c leaps 1 0;kind d leaps 1 0;";
        Bounds.due("at() of the last KIND of player 0", Game.told(four + "stone d 0 2 2;").at(0, 8), 3);
        Bounds.due("at() of the last KIND of player 1", Game.told(four + "stone d 1 2 2;").at(0, 8), 7);
        Bounds.promise(16, "NONE: no such ones.");
        for (int point : new int[] {-1, 9, 24, 25, Bounds.MIN, Bounds.MAX}) {
            Bounds.due("at(0, " + point + ")", x.at(0, point), Bounds.NONE);
        }
        for (int view : NO_VIEWS) {
            Bounds.due("at(" + view + ", 0)", x.at(view, 0), Bounds.NONE);
        }
        Bounds.promise(17, "Whose turn it is behind the ROW;");
        Bounds.due("turn(0) behind 3", x.turn(0), 1);
        Bounds.due("turn(1) behind 1", x.turn(1), 1);
        x.day(0);
        Bounds.due("turn(1) behind none", x.turn(1), 0);
        Bounds.due("turn(0) at an END", again("", 8).turn(0), 0);
        Bounds.due("turn(0) behind 2", again("", 2).turn(0), 0);
        Bounds.promise(17, "NONE: no such VIEW.");
        for (int view : NO_VIEWS) {
            Bounds.due("turn(" + view + ")", x.turn(view), Bounds.NONE);
        }
        Bounds.promise(18, "END of it: 0 it goes on, 1, 2 player 0, 1 has won, 3 DRAWN.");
        Bounds.due("end(0) that goes on", x.end(0), 0);
        Bounds.due("end(0), player 0 has won", behind("kind a leaps 1 0;stone a 0 1 0;stone a 1 2 0;", move(1, 2)).end(0), 1);
        Bounds.due("end(0), player 1 has won", Game.told("kind a leaps 1 0;stone a 1 0 0;").end(0), 2);
        Bounds.due("end(0), DRAWN", again("", 8).end(0), 3);
        Bounds.due("end(1) of a VIEW that knows nothing of it", behindLater().end(1), 0);
        Bounds.promise(18, "NONE: no such VIEW.");
        for (int view : NO_VIEWS) {
            Bounds.due("end(" + view + ")", x.end(view), Bounds.NONE);
        }
    }

    /** The umpire sees that player 0 has won; on day 0 no letter is marked yet. */
    private static Game behindLater() {
        Game x = Game.told("kind a leaps 1 0;stone a 0 1 0;stone a 1 2 0;");
        x.letter(0, 1, 2, -1);
        x.when(0, -1, move(1, 2));
        Bounds.due("end(0)", x.end(0), 1);
        return x;
    }

    private static void moves() {
        Bounds.promise(19, "How many LAWFUL MOVES there are behind the ROW (0 at an END);");
        Game x = three();
        Bounds.due("moves(0)", x.moves(0), 3);
        Bounds.due("moves(1)", x.moves(1), 2);
        Bounds.due("moves(0) of a new one", new Game().moves(0), 0);
        Bounds.due("moves(0) where it is DRAWN", again("", 8).moves(0), 0);
        Bounds.due("moves(0) one MOVE ahead", again("", 7).moves(0), 2);
        Bounds.due("moves(0) of 8 stones", Game.told(eightRunners()).moves(0), 4 + 4 + 4 + 4 + 4 + 6 + 7 + 6);
        Bounds.promise(19, "NONE: no such VIEW.");
        for (int view : NO_VIEWS) {
            Bounds.due("moves(" + view + ")", x.moves(view), Bounds.NONE);
        }
        Bounds.promise(20, "The k-th of them;");
        int[] due = {move(7, 8), move(7, 6), move(7, 4)};
        for (int k = 0; k < 3; k++) {
            Bounds.due("move(0, " + k + ")", x.move(0, k), due[k]);
        }
        Bounds.due("move(1, 1)", x.move(1, 1), move(6, 3));
        Bounds.promise(20, "NONE: no such ones.");
        Bounds.due("move(0, 3)", x.move(0, 3), Bounds.NONE);
        Bounds.due("move(1, 2)", x.move(1, 2), Bounds.NONE);
        Bounds.due("move(0, -1)", x.move(0, -1), Bounds.NONE);
        Bounds.due("move(0, MIN)", x.move(0, Bounds.MIN), Bounds.NONE);
        Bounds.due("move(0, MAX)", x.move(0, Bounds.MAX), Bounds.NONE);
        Bounds.due("move(0, 0) at an END", again("", 8).move(0, 0), Bounds.NONE);
        for (int view : NO_VIEWS) {
            Bounds.due("move(" + view + ", 0)", x.move(view, 0), Bounds.NONE);
        }
    }

    /** Five stones on the first row and three on the second, each of which runs up and aside. */
    private static String eightRunners() {
        StringBuilder s = new StringBuilder("board 5 5;kind q runs 0 1 1 1 -1 1;");
        for (int i = 0; i < 5; i++) {
            s.append("stone q 0 ").append(i).append(" 0;");
        }
        return s.append("stone q 0 0 1;stone q 0 2 1;stone q 0 4 1;").toString();
    }

    private static void laws() {
        Bounds.promise(21, "The law's E of a MOVE of a stone of whoever is to move, by the first of its steps, the nearest, that comes there "
            + "(whatever stands on the way or there, its own, too).");
        String far = "board 5 2;stone a 0 0 0;law 100 * kind + 10 * takes + far;".replace("stone", "%sstone");
        Bounds.due("law() by 1 0", Game.told(String.format(far, "kind a runs 1 0 2 0;")).law(0, 4), 4);
        Bounds.due("law() by 2 0", Game.told(String.format(far, "kind a runs 2 0 1 0;")).law(0, 4), 2);
        Bounds.due("law() by 2 0, then 1 0", Game.told(String.format(far, "kind a runs 2 0 1 0;")).law(0, 3), 3);
        Bounds.due("law() by 4 0", Game.told(String.format(far, "kind a runs 4 0 1 0;")).law(0, 4), 1);
        Bounds.due("law() of a leap, once", Game.told(String.format(far, "kind a leaps 1 0;")).law(0, 2), Bounds.ERROR);
        String rich = String.format(far, "kind a runs 1 0;") + "stone a 1 1 0;stone a 0 2 0;stone a 1 3 0;";
        Game x = Game.told(rich);
        long[] due = {Bounds.ERROR, 11, 2, 13, 4, Bounds.ERROR};
        for (int to = 0; to < due.length; to++) {
            Bounds.due("law(0, " + to + ") with stones on the way", x.law(0, to), due[to]);
        }
        Bounds.due("law() that isn't 0 or 1", Game.told("kind a leaps 1 0;stone a 0 0 0;law 0 - 12;").law(0, 1), -12);
        Bounds.due("law() of 0", Game.told("kind a leaps 1 0;stone a 0 0 0;law 0;").law(0, 1), 0);
        Bounds.promise(21, "Long.MIN_VALUE: an ERROR, no law, no such ones.");
        Bounds.due("law() with an ERROR", Game.told("kind a leaps 1 0;stone a 0 0 0;law 1 / 0;").law(0, 1), Bounds.ERROR);
        Bounds.due("law() without one", Game.told("kind a leaps 1 0;stone a 0 0 0;").law(0, 1), Bounds.ERROR);
        Bounds.due("law() behind a text with one", relaid().law(0, 1), Bounds.ERROR);
        int[] none = {move(1, 2), move(4, 5), move(5, 6), move(10, 11), move(63, 0), move(0, 10), move(0, 63), -1, Bounds.MIN, 4095, 4096, 4097,
            Bounds.MAX};
        for (int wrong : none) {
            Bounds.due("law(0, " + wrong + ")", x.law(0, wrong), Bounds.ERROR);
        }
        for (int view : NO_VIEWS) {
            Bounds.due("law(" + view + ", 1)", x.law(view, 1), Bounds.ERROR);
        }
        Bounds.refused("law(0, 4096)", RuleBounds::three, g -> g.law(0, 4096), Bounds.ERROR);
    }

    private static Game relaid() {
        Game x = Game.told("kind a leaps 1 0;stone a 0 0 0;law 5;");
        Bounds.due("law()", x.law(0, 1), 5);
        x.tell("kind a leaps 1 0;stone a 0 0 0;");
        return x;
    }

    static void all() {
        first();
        ways();
        takings();
        names();
        numbers();
        values();
        order();
        lost();
        drawn();
        rows();
        boards();
        moves();
        laws();
    }
}
