/** Promises 22 to 27: what is sure, how many games, what is safe, what refutes it, the fewest letters. */
public final class FollowTests {
    /** Two stones that only go ahead, past each other: whoever has no step left has lost. */
    private static PostStones race(int steps, int others) {
        return Due.told("board 2 5;kind a leaps 0 1;kind b leaps 0 -1;stone a 0 0 " + (4 - steps) + ";stone b 1 1 "
            + others + ";");
    }

    private static int up(int y) {
        return 64 * (2 * y) + 2 * (y + 1);
    }

    private static int down(int y) {
        return 64 * (2 * y + 1) + 2 * (y - 1) + 1;
    }

    private static void sure() {
        // player 0 can run to 1, 2 or take on 3; player 1's stone on 3 can go to 2 if nothing is there
        PostStones x = Due.told("board 4 2;kind a runs 1 0;kind b leaps -1 0 0 1;stone a 0 0 0;stone b 1 3 0;law takes = 0 or row = 0;");
        Due.due("moves(0)", x.moves(0), 3);
        int aside = 64 * 3 + 2;
        int down = 64 * 3 + 7;
        Due.due("sure(0, 1, aside, 0): lawful behind 1, and it takes on 2", x.sure(0, 1, aside, 0), 1);
        Due.due("sure(0, 1, aside, 1)", x.sure(0, 1, aside, 1), 3);
        Due.due("sure(0, 1, down, 0)", x.sure(0, 1, down, 0), 2);
        Due.due("sure(0, 1, 1, 0): not one of player 1's", x.sure(0, 1, 1, 0), 0);
        Due.due("sure(0, 0, 1, 0)", x.sure(0, 0, 1, 0), 1);
        Due.due("sure(0, 0, 1, 1)", x.sure(0, 0, 1, 1), 1);
        Due.due("sure(0, 0, 4, 0)", x.sure(0, 0, 4, 0), 0);
        Due.due("sure(0, 0, 4, 1)", x.sure(0, 0, 4, 1), 1);
        Due.due("sure(0, 0, 4095, 0)", x.sure(0, 0, 4095, 0), 0);
        int[][] none = {{4, 0, 1, 0}, {-1, 0, 1, 0}, {0, 2, 1, 0}, {0, -1, 1, 0}, {0, 0, -1, 0}, {0, 0, 4096, 0},
            {0, 0, 1, 2}, {0, 0, 1, -1}};
        for (int[] c : none) {
            Due.due("sure() of none such", x.sure(c[0], c[1], c[2], c[3]), -1);
        }
        PostStones y = new PostStones();
        for (int what = 0; what < 2; what++) {
            Due.due("sure() at an end", y.sure(0, 1, 1, what), 0);
            Due.due("sure() at an end of who has lost", y.sure(0, 0, 1, what), 0);
        }
        Due.due("sure() of none such at an end", y.sure(0, 0, 4096, 0), -1);
    }

    private static void games() {
        PostStones x = Due.told("board 5 5;kind a leaps 1 0 0 1;stone a 0 0 0;stone a 1 0 1;stone a 1 4 4;");
        // 0 to 1 or 5 (taking); player 1 has two moves, or none with the stone in the corner alone
        int[] due = {1, 2, 2, 4};
        for (int n = 0; n < 4; n++) {
            Due.due("games(0, " + n + ")", x.games(0, n), due[n]);
        }
        Due.due("games(0, 4)", x.games(0, 4), -1);
        Due.due("games(0, -1)", x.games(0, -1), -1);
        Due.due("games(4, 0)", x.games(4, 0), -1);
        PostStones end = new PostStones();
        Due.due("games(0, 0) at an end", end.games(0, 0), 1);
        Due.due("games(0, 3) at an end", end.games(0, 3), 0);
        PostStones king = Due.told("board 3 2;kind k leaps 1 0 -1 0 king;kind a leaps 1 0;stone a 0 0 0;stone k 1 1 0;stone a 1 0 1;");
        Due.due("games(0, 1): the king can be taken", king.games(0, 1), 1);
        Due.due("games(0, 2): nothing follows then", king.games(0, 2), 0);
    }

    /** Of two more MOVES one board is there for the third time: what follows isn't asked for that. */
    private static void repetitionsDoNotCount() {
        PostStones x = Due.told("board 2 2;kind a leaps 1 0 -1 0;stone a 0 0 0;stone a 1 0 1;");
        x.letter(0, 0, 0, -1);
        x.when(0, -1, 1);
        x.when(2, -1, 64);
        x.when(4, -1, 1);
        x.when(6, -1, 64);
        x.letter(1, 0, 0, -1);
        x.when(1, -1, 64 * 2 + 3);
        x.when(3, -1, 64 * 3 + 2);
        x.when(5, -1, 64 * 2 + 3);
        Due.due("end(0)", x.end(0), 0);
        Due.due("games(0, 3)", x.games(0, 3), 1);
        Due.due("safe(0, 0, 2, 0)", x.safe(0, 0, 2, 0), 1);
        x.when(7, -1, 64 * 3 + 2);
        Due.due("end(0): drawn", x.end(0), 3);
        for (int player = 0; player < 2; player++) {
            Due.due("safe() at a draw", x.safe(0, player, 1, 0), 0);
            Due.due("safe() at a draw, what 1", x.safe(0, player, 1, 1), 0);
            Due.due("reply() at a draw", x.reply(0, player, 1, 0), -1);
            Due.due("refuted() at a draw", x.refuted(0, player, 1), -2);
            Due.due("sure() at a draw", x.sure(0, player, 1, 1), 0);
        }
        Due.due("games(0, 1) at a draw", x.games(0, 1), 0);
        Due.due("fewest(0) at a draw", x.fewest(0), -2);
    }

    private static void fewest() {
        int[][] races = {{1, 0, 1}, {2, 0, 1}, {1, 1, -2}, {2, 1, 2}, {4, 1, 2}, {2, 2, -2}, {3, 2, -2}, {4, 2, -2}};
        for (int[] r : races) {
            Due.due("fewest(0) of " + r[0] + " steps against " + r[1], race(r[0], r[1]).fewest(0), r[2]);
        }
        Due.due("fewest(0) of who has lost", race(0, 1).fewest(0), -2);
        Due.due("fewest(4)", race(1, 1).fewest(4), -1);
        Due.due("fewest(-1)", race(1, 1).fewest(-1), -1);
    }

    private static void safeToMove() {
        PostStones x = race(1, 1);
        Due.due("safe(0, 0, 0, 0): nobody wins in 0", x.safe(0, 0, 0, 0), 1);
        Due.due("safe(0, 0, 1, 0)", x.safe(0, 0, 1, 0), -2);
        Due.due("safe(0, 0, 1, 1)", x.safe(0, 0, 1, 1), -2);
        Due.due("safe(0, 0, 2, 0)", x.safe(0, 0, 2, 0), -2);
        Due.due("reply(0, 0, 0, 0)", x.reply(0, 0, 0, 0), up(3));
        Due.due("reply(0, 0, 1, 0)", x.reply(0, 0, 1, 0), -2);
        Due.due("reply(0, 0, 1, 1)", x.reply(0, 0, 1, 1), -1);
        Due.due("reply(0, 0, 1, -1)", x.reply(0, 0, 1, -1), -1);
        Due.due("refuted(0, 0, 1) of who is to move", x.refuted(0, 0, 1), -2);
        Due.due("refuted(0, 0, 0) of who is to move", race(1, 0).refuted(0, 0, 0), -2);
        // the first step leads to where it is taken at once, the second not
        PostStones y = Due.told("board 3 3;kind a leaps 1 0 0 1;kind b leaps -1 0;stone a 0 0 0;stone b 1 2 0;");
        Due.due("reply(0, 0, 0, 0)", y.reply(0, 0, 0, 0), 1);
        Due.due("reply(0, 0, 1, 0)", y.reply(0, 0, 1, 0), 3);
        Due.due("safe(0, 0, 1, 0)", y.safe(0, 0, 1, 0), 1);
        Due.due("safe(0, 0, 1, 1)", y.safe(0, 0, 1, 1), 1);
    }

    private static void safeBehind() {
        PostStones x = race(2, 1);
        Due.due("safe(0, 1, 0, 0)", x.safe(0, 1, 0, 0), 1);
        Due.due("safe(0, 1, 1, 0)", x.safe(0, 1, 1, 0), -2);
        Due.due("refuted(0, 1, 0)", x.refuted(0, 1, 0), -2);
        Due.due("refuted(0, 1, 1)", x.refuted(0, 1, 1), up(2));
        Due.due("reply(0, 1, 0, 0)", x.reply(0, 1, 0, 0), down(1));
        Due.due("reply(0, 1, 1, 0)", x.reply(0, 1, 1, 0), -2);
        Due.due("reply(0, 1, 0, 1)", x.reply(0, 1, 0, 1), -1);
        Due.due("reply(0, 1, 0, -1)", x.reply(0, 1, 0, -1), -1);
        Due.due("refuted(0, 1, 0) that ends it", race(1, 0).refuted(0, 1, 0), up(3));
        PostStones six = Due.told("board 5 5;kind a runs 1 0;kind b runs 0 1;kind c leaps 1 0;stone a 0 0 0;stone b 0 1 2;stone c 1 0 4;");
        Due.due("safe(0, 1, 0, 0) of 6", six.safe(0, 1, 0, 0), 6);
        Due.due("safe(0, 1, 0, 1) of 6", six.safe(0, 1, 0, 1), 1);
        PostStones seven = Due.told("board 5 5;kind a runs 1 0;kind b runs 0 1;kind c leaps 1 0;stone a 0 0 0;stone b 0 1 1;stone c 1 0 4;");
        Due.due("safe(0, 1, 0, 0) of 7", seven.safe(0, 1, 0, 0), 7);
        Due.due("safe(0, 1, 0, 1) of 7", seven.safe(0, 1, 0, 1), 0);
        // one of the moves takes the king, though another stone could still move
        PostStones king = Due.told("board 3 2;kind k leaps 1 0 -1 0 king;kind a leaps 1 0 0 1;stone a 0 0 0;stone k 1 1 0;stone a 1 1 1;");
        Due.due("refuted(0, 1, 0): the king is taken", king.refuted(0, 1, 0), 1);
        Due.due("reply(0, 1, 0, 0)", king.reply(0, 1, 0, 0), -2);
        Due.due("reply(0, 1, 0, 1): the other move can be answered", king.reply(0, 1, 0, 1), 64 + 2);
    }

    private static void wrongOnes() {
        PostStones x = race(2, 2);
        int[][] none = {{4, 0, 0}, {-1, 0, 0}, {0, 2, 0}, {0, -1, 0}, {0, 0, 3}, {0, 0, -1}};
        for (int[] c : none) {
            Due.due("safe() of none such", x.safe(c[0], c[1], c[2], 0), -1);
            Due.due("reply() of none such", x.reply(c[0], c[1], c[2], 0), -1);
            Due.due("refuted() of none such", x.refuted(c[0], c[1], c[2]), -1);
        }
        Due.due("safe() of no such what", x.safe(0, 0, 0, 2), -1);
        Due.due("safe() of no such what", x.safe(0, 0, 0, -1), -1);
        PostStones lost = race(0, 2);
        Due.due("safe() of who has lost", lost.safe(0, 0, 0, 0), -2);
        Due.due("safe() of who has won", lost.safe(0, 1, 0, 0), 0);
        Due.due("safe() of who has won, what 1", lost.safe(0, 1, 0, 1), 0);
        Due.due("reply() at an end", lost.reply(0, 0, 0, 0), -1);
        Due.due("refuted() at an end", lost.refuted(0, 1, 0), -2);
    }

    public static void main(String[] args) {
        sure();
        games();
        repetitionsDoNotCount();
        fewest();
        safeToMove();
        safeBehind();
        wrongOnes();
        Due.close();
    }
}
