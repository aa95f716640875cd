/** Promises 13 to 21: rows of moves in all views, the board behind them, what is lawful, ends, the law. */
public final class RowTests {
    private static final long ERROR = Long.MIN_VALUE;

    private static int move(int from, int to) {
        return 64 * from + to;
    }

    private static void lawful(String text, int... moves) {
        PostStones x = Due.told(text);
        Due.due("moves(0) of " + text, x.moves(0), moves.length);
        for (int k = 0; k < moves.length; k++) {
            Due.due("move(0, " + k + ") of " + text, x.move(0, k), moves[k]);
        }
        Due.due("move(0, behind) of " + text, x.move(0, moves.length), -1);
        Due.due("move(0, -1) of " + text, x.move(0, -1), -1);
    }

    private static void moves() {
        String a = "stone a 0 0 0;";
        lawful("kind a leaps 1 0 0 1 -1 0;" + a, move(0, 1), move(0, 3));
        lawful("kind a leaps 2 1 1 2 4 4;" + a, move(0, 5), move(0, 7));
        // a leap goes over stones, a run not; one's own is not taken, the other's ends the run
        lawful("board 5 2;kind a leaps 3 0;kind b leaps 1 1;" + a + "stone b 1 1 0;stone b 0 2 1;", move(0, 3));
        lawful("board 5 2;kind a runs 1 0;kind b leaps 0 4;" + a + "stone b 1 3 0;", move(0, 1), move(0, 2), move(0, 3));
        lawful("board 5 2;kind a runs 1 0;kind b leaps 0 4;" + a + "stone b 0 3 0;", move(0, 1), move(0, 2));
        lawful("board 5 2;kind a runs 1 0;" + a, move(0, 1), move(0, 2), move(0, 3), move(0, 4));
        // each once: by the first step that is lawful
        lawful("board 5 2;kind a runs 2 0 1 0;" + a, move(0, 2), move(0, 4), move(0, 1), move(0, 3));
        lawful("board 5 2;kind a runs 1 0 2 0;law far = 1;" + a, move(0, 1), move(0, 2));
        // by points from, whatever the order of the stones
        lawful("kind a leaps 1 0;stone a 0 1 2;stone a 0 0 0;stone a 0 0 1;", move(0, 1), move(3, 4), move(7, 8));
        lawful("kind a leaps 1 0 0 1;law row;" + a, move(0, 3));
        lawful("kind a leaps 1 0 0 1;law 1 / row;" + a, move(0, 1), move(0, 3));
        PostStones x = Due.told("kind a leaps 1 0;" + a);
        Due.due("moves(4)", x.moves(4), -1);
        Due.due("moves(-1)", x.moves(-1), -1);
        Due.due("move(4, 0)", x.move(4, 0), -1);
    }

    /** The law's E of the move from 0 to 1 by player 0, who has one more stone of three. */
    private static void worth(String law, long due) {
        PostStones x = Due.told("kind n leaps 0 1;kind a leaps 1 0 king;stone a 0 0 0;stone n 0 0 2;stone n 1 2 2;law " + law + ";");
        Due.due("law(0, 1) of " + law, x.law(0, 1), due);
    }

    private static void values() {
        worth("2 + 3 * 4", 14);
        worth("7 - 2 - 1", 4);
        worth("8 / 3 * 3", 6);
        worth("0 - 7 / 2", -3);
        worth("(0 - 7) / 2", -3);
        worth("1 or 0 and 0", 1);
        worth("(1 or 0) and 0", 0);
        worth("5 and 7", 1);
        worth("0 or 9", 1);
        worth("not 5", 0);
        worth("not 0 = 1", 1);
        worth("(not 0) = 1", 1);
        worth("(not 0) + 1", 2);
        worth("not not 7", 1);
        worth("not 0 + 1", 0);
        worth("1 + 1 = 2 and 3 < 4", 1);
        worth("2 < 2", 0);
        worth("2 <= 2", 1);
        worth("2 <> 2", 0);
        worth("2 >= 3", 0);
        worth("3 >= 3", 1);
        worth("3 > 2", 1);
        worth("3 > 3", 0);
        worth("4 - 1 > 3", 0);
        worth("3 = 3", 1);
        worth("3 = 4", 0);
        worth("3 <> 4", 1);
        worth("4 < 5", 1);
        worth("5 <= 4", 0);
        worth("0 - 1 < 0", 1);
        worth("1000*1000*1000*1000", 1000000000000L);
        worth("1000*1000*1000*1000+1", ERROR);
        worth("0-1000*1000*1000*1000", -1000000000000L);
        worth("0-1000*1000*1000*1000-1", ERROR);
        worth("9999*9999*9999*(9999*9999*9999)", ERROR);
        worth("(0-9999*9999*9999)*(9999*9999*9999)", ERROR);
        worth("1000*1000*1000*(1000+1)*0", ERROR);
        worth("1 / 0", ERROR);
        worth("1 or 1 / 0", ERROR);
        worth("0 and 1 / 0", ERROR);
        worth("takes", 0);
        worth("far", 1);
        worth("row", 0);
        worth("kind", 1);
        worth("stones", 2);
        worth("others", 1);
        worth("ply", 0);
        worth("king", 1);
    }

    private static void laws() {
        String sum = "law takes + 10 * far + 100 * row + 1000 * ply + king * 9999 * 10 + kind * 5;";
        PostStones x = Due.told("board 4 5;kind a runs 0 1 0 2 1 0;kind b leaps 0 -1 king;stone a 0 0 0;stone a 0 0 1;"
            + "stone b 1 1 0;stone b 1 3 4;stone b 1 2 4;" + sum);
        Due.due("law() over a stone, by the first step", x.law(0, move(0, 8)), 220);
        Due.due("law() onto one's own: none is taken", x.law(0, move(0, 4)), 110);
        Due.due("law() that takes", x.law(0, move(0, 1)), 11);
        Due.due("law() four times", x.law(0, move(0, 16)), 440);
        Due.due("law() where no step comes", x.law(0, move(0, 5)), ERROR);
        Due.due("law() where it stands", x.law(0, move(0, 0)), ERROR);
        Due.due("law() of the other's stone", x.law(0, move(19, 15)), ERROR);
        Due.due("law() of no stone", x.law(0, move(10, 14)), ERROR);
        Due.due("law() off the board", x.law(0, move(63, 63)), ERROR);
        Due.due("law() of move -1", x.law(0, -1), ERROR);
        Due.due("law() of move 4096", x.law(0, 4096), ERROR);
        Due.due("law() of view 4", x.law(4, move(0, 8)), ERROR);
        x.letter(0, 0, 0, -1);
        x.when(0, -1, move(0, 1));
        Due.due("law() of player 1, whose row is the last", x.law(0, move(19, 15)), 101105);
        Due.due("law() without one", Due.told("kind a leaps 1 0;stone a 0 0 0;").law(0, 1), ERROR);
    }

    private static void views() {
        PostStones x = Due.told(LetterTests.GAME);
        x.letter(0, 1, 4, -1);
        x.when(0, -1, 133);
        x.when(2, 391, 328);
        x.letter(1, 5, 8, 0);
        x.when(1, -1, 391);
        int[] days = {0, 1, 3, 4, 5, 7, 8};
        int[][] plies = {{3, 3, 3, 3, 3, 3, 3}, {0, 1, 1, 1, 1, 1, 3}, {0, 0, 0, 1, 3, 3, 3}, {0, 0, 0, 1, 1, 1, 3}};
        for (int i = 0; i < days.length; i++) {
            x.day(days[i]);
            for (int view = 0; view < 4; view++) {
                Due.due("plies(" + view + ") on day " + days[i], x.plies(view), plies[view][i]);
            }
        }
        Due.due("plies(4)", x.plies(4), -1);
        Due.due("plies(-1)", x.plies(-1), -1);
        int[] row = {133, 391, 328};
        int[] by = {0, 1, 0};
        for (int k = 0; k < 3; k++) {
            Due.due("row(3, " + k + ")", x.row(3, k), row[k]);
            Due.due("by(3, " + k + ")", x.by(3, k), by[k]);
        }
        for (int k = -1; k <= 3; k += 4) {
            Due.due("row(3, " + k + ")", x.row(3, k), -1);
            Due.due("by(3, " + k + ")", x.by(3, k), -1);
        }
        Due.due("row(4, 0)", x.row(4, 0), -1);
        Due.due("by(-1, 0)", x.by(-1, 0), -1);
        int[] board = {0, -2, -2, -2, -2, -2, -2, 4, 1};
        for (int point = 0; point < 9; point++) {
            Due.due("at(0, " + point + ")", x.at(0, point), board[point]);
        }
        Due.due("at(0, 9)", x.at(0, 9), -1);
        Due.due("at(0, -1)", x.at(0, -1), -1);
        Due.due("at(4, 0)", x.at(4, 0), -1);
        Due.due("turn(0)", x.turn(0), 1);
        Due.due("turn(4)", x.turn(4), -1);
        Due.due("end(0)", x.end(0), 0);
        Due.due("end(4)", x.end(4), -1);
        x.day(4);
        Due.due("turn(2) on day 4", x.turn(2), 1);
        Due.due("at(2, 5) on day 4", x.at(2, 5), 1);
        Due.due("turn(2) on day 0", x.day(0) ? x.turn(2) : 9, 0);
    }

    private static void order() {
        for (int late = 0; late < 2; late++) {
            PostStones x = Due.told(LetterTests.GAME + (late == 1 ? "late;" : ""));
            x.letter(0, 6, 9, -1);
            x.when(0, -1, 1);
            x.letter(0, 5, 9, -1);
            x.when(0, -1, 3);
            x.when(0, -1, 133);
            x.letter(0, 5, 9, -1);
            x.when(0, -1, 136);
            Due.due("row(0, 0) by marks, late " + late, x.row(0, 0), late == 1 ? 1 : 3);
            x.letter(0, 6, 9, -1);
            x.when(0, -1, 133);
            Due.due("row(0, 0) by numbers, late " + late, x.row(0, 0), late == 1 ? 133 : 3);
            Due.due("by(0, 0), late " + late, x.by(0, 0), late == 1 ? 3 : 1);
        }
    }

    /** Boards, counts and orders are made anew with each change. */
    private static void anew() {
        PostStones x = Due.told("kind a leaps 1 0 0 1;stone a 0 0 0;stone a 1 1 0;stone a 1 0 1;law stones * 10 + others;");
        for (int day = 0; day < 3; day++) {
            x.day(day);
            Due.due("law(0, 1) on day " + day, x.law(0, 1), 12);
        }
        for (int mark = 5; mark >= 0; mark--) {
            x.letter(0, mark, 9, -1);
            x.when(0, -1, mark % 2 == 0 ? 1 : 3);
            Due.due("by(0, 0) with a MARK on " + mark, x.by(0, 0), 5 - mark);
        }
        Due.due("whence(0, 0, 1)", x.whence(0, 0, 1), 2);
        Due.due("law(0, 197): player 0's stone took one", x.law(0, 64 * 3 + 4), 11);
        Due.tell(x, "kind k leaps 1 0 king;kind a leaps 0 1;stone k 0 0 0;stone k 1 0 2;");
        Due.due("end(0) with kings", x.end(0), 0);
        Due.tell(x, "kind k leaps 1 0 king;kind a leaps 0 1;stone a 0 0 0;stone a 1 0 1;");
        Due.due("end(0): a king of a text ahead isn't missed", x.end(0), 0);
        PostStones y = Due.told("board 5 5;kind a leaps 1 0 -1 0;kind b leaps 0 4 0 -4;stone a 0 0 2;stone b 1 4 4;");
        int[] there = {64 * 10 + 11, 64 * 24 + 4, 64 * 11 + 10, 64 * 4 + 24};
        for (int player = 0; player < 2; player++) {
            y.letter(player, 0, 0, -1);
            for (int ply = player; ply < 8 + player; ply += 2) {
                y.when(ply, -1, there[ply % 4]);
            }
        }
        Due.due("end(0): stones on the last point and in the middle are there again", y.end(0), 3);
        y.undo();
        Due.due("end(0): not without the last move", y.end(0), 0);
    }

    private static void ends() {
        PostStones x = new PostStones();
        Due.due("end(0) without stones", x.end(0), 2);
        Due.due("turn(0) without stones", x.turn(0), 0);
        String kings = "board 3 2;kind k leaps 1 0 -1 0 king;kind a leaps 1 0;";
        PostStones taken = Due.told(kings + "stone a 0 0 0;stone k 1 1 0;stone a 1 0 1;");
        Due.due("end(0) ahead of the king's loss: player 0 had none at first", taken.end(0), 0);
        taken.letter(0, 0, 0, -1);
        taken.when(0, -1, 1);
        taken.letter(1, 0, 0, -1);
        taken.when(1, -1, move(3, 4));
        Due.due("end(0): a king is lost", taken.end(0), 1);
        Due.due("plies(0): it ends there", taken.plies(0), 1);
        Due.due("moves(0): none at an end", taken.moves(0), 0);
        PostStones stuck = Due.told(kings + "stone a 0 1 0;stone a 1 2 1;");
        Due.due("end(0) ahead", stuck.end(0), 0);
        stuck.letter(0, 0, 0, -1);
        stuck.when(0, -1, move(1, 2));
        Due.due("end(0): no lawful move", stuck.end(0), 1);
        Due.due("turn(0) of who has lost", stuck.turn(0), 1);
    }

    private static void repeated() {
        PostStones x = Due.told(LetterTests.GAME);
        x.letter(0, 0, 2, -1);
        x.when(0, -1, 1);
        x.when(2, -1, 64);
        x.when(4, -1, 1);
        x.when(6, -1, 64);
        x.when(8, -1, 1);
        x.letter(1, 1, 3, 0);
        x.when(1, -1, 391);
        x.when(3, -1, 454);
        x.when(5, -1, 391);
        Due.due("end(0): the board is there twice", x.end(0), 0);
        x.when(7, -1, 454);
        Due.due("end(0): three times", x.end(0), 3);
        Due.due("plies(0)", x.plies(0), 8);
    }

    /** Player 0 goes round by 20 points, player 1 to and fro: no board is there more than twice. */
    private static void sixty(String law, int due) {
        PostStones x = Due.told("board 5 5;kind a leaps 1 0 -1 0 0 1 0 -1;stone a 0 0 0;stone a 1 0 4;" + law);
        int[] round = {0, 1, 2, 3, 4, 9, 8, 7, 6, 11, 12, 13, 14, 19, 18, 17, 16, 15, 10, 5};
        for (int half = 0; half < 5; half++) {
            x.letter(0, 0, 0, -1);
            for (int i = 6 * half; i < 6 * half + 6; i++) {
                Due.due("when()", x.when(2 * i, -1, move(round[i % 20], round[(i + 1) % 20])), i % 6 + 1);
            }
            x.letter(1, 0, 0, -1);
            for (int i = 6 * half; i < 6 * half + 6; i++) {
                x.when(2 * i + 1, -1, i % 2 == 0 ? move(20, 21) : move(21, 20));
            }
        }
        Due.due("plies(0) of 60", x.plies(0), 60);
        Due.due("end(0) of 60 " + law, x.end(0), due);
        x.undo();
        Due.due("plies(0) of 59", x.plies(0), 59);
        Due.due("end(0) of 59 " + law, x.end(0), 0);
    }

    public static void main(String[] args) {
        moves();
        values();
        laws();
        views();
        order();
        anew();
        ends();
        repeated();
        sixty("", 3);
        sixty("law ply < 60;", 2);
        Due.close();
    }
}
