/** The bounds of what can follow: SURE, GAMES, LOST, WINS, SAFE and FEWEST of part 4, promises 22 to 27. */
final class FollowBounds {
    private static final int[] NO_VIEWS = {-1, 4, Bounds.MIN, Bounds.MAX};

    private FollowBounds() { }

    private static void terms(String words) {
        Bounds.sentence(Bounds.TERMS, words);
    }

    private static int move(int from, int to) {
        return 64 * from + to;
    }

    /**
     * Two stones each that can only go aside and back, so that there are always two MOVES, and a law by
     * which all ends behind so many MOVES: who is to move then has lost.
     */
    private static Game left(int moves) {
        return Game.told("board 2 5;kind a leaps 1 0 -1 0;stone a 0 0 0;stone a 0 0 1;stone a 1 0 3;stone a 1 0 4;law ply < " + moves + ";");
    }

    private static boolean isOdd(int number) {
        return number % 2 == 1;
    }

    private static void sure() {
        terms("SURE: of whoever in a VIEW isn't to move, with a MOVE: in how many of the other's LAWFUL MOVES it is LAWFUL behind them, "
            + "of how many; of whoever is to move: of one.");
        // player 0 runs to 1 or 2 or takes on 3; player 1 goes to 2 from 3, if it is there still
        Game x = Game.told("board 4 2;kind a runs 1 0;kind b leaps -1 0 0 1;stone a 0 0 0;stone b 1 3 0;stone b 1 2 1;law takes = 0 or row = 0;");
        int[][] due = {{move(3, 2), 1}, {move(3, 7), 2}, {move(6, 5), 3}, {move(6, 7), 0}, {move(0, 1), 0}, {0, 0}, {4095, 0}};
        for (int[] d : due) {
            Bounds.due("sure(0, 1, " + d[0] + ", 0)", x.sure(0, 1, d[0], 0), d[1]);
            Bounds.due("sure(0, 1, " + d[0] + ", 1)", x.sure(0, 1, d[0], 1), 3);
        }
        int[][] own = {{1, 1}, {2, 1}, {3, 1}, {4, 0}, {move(3, 2), 0}, {0, 0}, {4095, 0}};
        for (int[] d : own) {
            Bounds.due("sure(0, 0, " + d[0] + ", 0)", x.sure(0, 0, d[0], 0), d[1]);
            Bounds.due("sure(0, 0, " + d[0] + ", 1)", x.sure(0, 0, d[0], 1), 1);
        }
        Game one = left(2);
        Bounds.due("sure() of the last MOVE", one.sure(0, 1, move(6, 7), 0), 2);
        Bounds.due("sure() of none behind", left(1).sure(0, 1, move(6, 7), 0), 0);
        Bounds.promise(22, "SURE, what 0: in how many, 1: of how many (0 at an END).");
        for (Game end : new Game[] {new Game(), left(0), RuleBounds.again("", 8), RuleBounds.sixty("", 60)}) {
            for (int what = 0; what < 2; what++) {
                Bounds.due("sure() at an END", end.sure(0, 0, 1, what), 0);
                Bounds.due("sure() of the other at an END", end.sure(0, 1, move(6, 7), what), 0);
            }
        }
        x.letter(0, 5, 9, -1);
        x.when(0, -1, 1);
        x.day(5);
        Bounds.due("sure(1, 1, ..) of who is to move in that VIEW", x.sure(1, 1, move(3, 2), 1), 1);
        Bounds.due("sure(2, 1, ..) of who isn't in that VIEW", x.sure(2, 1, move(3, 2), 1), 3);
        Bounds.promise(22, "NONE: no such ones.");
        int[][] wrong = {{0, 2, 1, 0}, {0, -1, 1, 0}, {0, Bounds.MAX, 1, 0}, {0, 0, -1, 0}, {0, 0, 4096, 0}, {0, 0, Bounds.MIN, 0},
            {0, 0, Bounds.MAX, 0}, {0, 0, 1, -1}, {0, 0, 1, 2}, {0, 1, 1, Bounds.MIN}, {0, 1, 1, Bounds.MAX}};
        for (int[] w : wrong) {
            Bounds.due("sure(" + w[0] + ", " + w[1] + ", " + w[2] + ", " + w[3] + ")", x.sure(w[0], w[1], w[2], w[3]), Bounds.NONE);
            Bounds.due("sure() of none such at an END", left(0).sure(w[0], w[1], w[2], w[3]), Bounds.NONE);
        }
        for (int view : NO_VIEWS) {
            Bounds.due("sure(" + view + ", 0, 1, 0)", x.sure(view, 0, 1, 0), Bounds.NONE);
        }
    }

    private static void games() {
        terms("GAMES: how many rows of n MOVES can follow (1 of none).");
        for (int left = 0; left <= 4; left++) {
            for (int n = 0; n <= 3; n++) {
                Bounds.due("games(0, " + n + ") with " + left + " MOVES left", left(left).games(0, n), n <= left ? 1 << n : 0);
            }
        }
        // of player 0's two MOVES one leaves player 1 none
        Game x = Game.told("board 3 2;kind a leaps 1 0;stone a 0 0 0;stone a 0 0 1;stone a 1 1 1;");
        int[] due = {1, 2, 1, 2};
        for (int n = 0; n <= 3; n++) {
            Bounds.due("games(0, " + n + ")", x.games(0, n), due[n]);
        }
        Game king = Game.told("board 3 2;kind k leaps 1 0 -1 0 king;kind a leaps 1 0;stone a 0 0 0;stone k 1 1 0;stone a 1 0 1;");
        Bounds.due("games(0, 1): the king is taken", king.games(0, 1), 1);
        Bounds.due("games(0, 2): nothing is behind it", king.games(0, 2), 0);
        Bounds.promise(23, "GAMES (n 0 .. 3);");
        Bounds.due("games(0, 0)", left(9).games(0, 0), 1);
        Bounds.due("games(3, 3)", left(9).games(3, 3), 8);
        Bounds.promise(23, "NONE: no such ones.");
        for (int n : new int[] {-1, 4, Bounds.MIN, Bounds.MAX}) {
            Bounds.due("games(0, " + n + ")", left(9).games(0, n), Bounds.NONE);
            Bounds.due("games(0, " + n + ") at an END", left(0).games(0, n), Bounds.NONE);
        }
        for (int view : NO_VIEWS) {
            Bounds.due("games(" + view + ", 0)", left(9).games(view, 0), Bounds.NONE);
        }
    }

    /** With so many MOVES left, whoever is to move WINS in as many if they are odd, is LOST if they are even. */
    private static void lostAndWins() {
        terms("LOST in n: whoever is to move has lost (no king, no LAWFUL MOVE), or n is 1 at least and each of their LAWFUL MOVES leads to "
            + "where the other WINS in n less 1.");
        for (int n = 0; n <= 2; n++) {
            // behind player 0's MOVE the other, LOST, doesn't WIN
            Bounds.due("safe(0, 0, " + n + ", 0) where the other has lost at once", left(1).safe(0, 0, n, 0), 1);
            Bounds.due("safe(0, 0, " + n + ", 0) where the other is LOST in 2", left(3).safe(0, 0, n, 0), 1);
        }
        Bounds.due("fewest(0): LOST in 0", left(1).fewest(0), 1);
        Bounds.due("fewest(0): LOST in 2", left(3).fewest(0), 2);
        Bounds.due("fewest(0): LOST in 4 is too late", left(5).fewest(0), -2);
        Bounds.due("fewest(0): not each of the other's MOVES", halfLost().fewest(0), -2);
        terms("WINS in n: whoever is to move hasn't lost, n is 1 at least and one of the LAWFUL MOVES leads to where the other is LOST in n less 1.");
        for (int left = 2; left <= 5; left++) {
            for (int n = 0; n <= 2; n++) {
                boolean wins = isOdd(left - 1) && n >= left - 1;
                Bounds.due("safe(0, 0, " + n + ", 0): the other WINS in " + (left - 1), left(left).safe(0, 0, n, 0), wins ? -2 : 1);
            }
        }
        Bounds.due("reply(0, 0, 0, 0): nobody WINS in 0", kings().reply(0, 0, 0, 0), move(1, 4));
        Bounds.due("reply(0, 0, 1, 0): who has lost the king doesn't WIN", kings().reply(0, 0, 1, 0), move(1, 2));
        terms("(What can follow isn't asked for repetitions nor 60 MOVES; at an END now nothing follows.)");
        Bounds.due("games(0, 3) ahead of the third time", RuleBounds.again("", 7).games(0, 3) > 0 ? 1 : 0, 1);
        Bounds.due("games(0, 3) behind 59", RuleBounds.sixty("", 59).games(0, 3) > 0 ? 1 : 0, 1);
        int[] fewest = {1, -2, 2, -2};
        for (int more = 0; more < 4; more++) {
            Game late = RuleBounds.sixty("law ply < " + (60 + more) + ";", 59);
            Bounds.due("fewest(0) behind 59 with " + (more + 1) + " left", late.fewest(0), fewest[more]);
            Game third = RuleBounds.again("law ply < " + (8 + more) + ";", 7);
            Bounds.due("fewest(0) ahead of the third time with " + (more + 1) + " left", third.fewest(0), fewest[more]);
        }
        for (Game end : new Game[] {RuleBounds.again("law ply < 9;", 8), RuleBounds.sixty("law ply < 61;", 60)}) {
            Bounds.due("games(0, 0) at an END", end.games(0, 0), 1);
            Bounds.due("games(0, 1) at an END", end.games(0, 1), 0);
            Bounds.due("fewest(0) at an END", end.fewest(0), -2);
        }
    }

    /** Player 0's one MOVE leads to where one of player 1's two MOVES loses at once, the other never. */
    private static Game halfLost() {
        return Game.told("board 3 3;kind a leaps 1 0 -1 0;kind b leaps 0 -1 1 0 -1 0;stone a 0 0 0;stone b 1 0 1;law ply < 3 or row < 2;");
    }

    /** Player 1's stone could take player 0's king behind each MOVE, but the second one takes his own king. */
    private static Game kings() {
        return Game.told("kind k leaps -1 0 king;kind a leaps 0 1 1 0;kind b leaps 0 -1;"
            + "stone k 0 0 0;stone a 0 1 0;stone k 1 2 0;stone b 1 0 1;");
    }

    private static void safeLetters() {
        terms("SAFE letter in n, of a player in a VIEW: if they are to move: a MOVE behind which the other doesn't WIN in n; else for each of the "
            + "other's LAWFUL MOVES a MOVE behind which the other doesn't WIN in n, the first such each.");
        // the first of player 0's MOVES is taken at once, the second not
        Game x = Game.told("kind a leaps 1 0 0 1;kind b leaps -1 0;stone a 0 0 0;stone b 1 2 0;");
        Bounds.due("reply(0, 0, 0, 0)", x.reply(0, 0, 0, 0), move(0, 1));
        Bounds.due("reply(0, 0, 1, 0)", x.reply(0, 0, 1, 0), move(0, 3));
        Bounds.due("reply(0, 0, 2, 0)", x.reply(0, 0, 2, 0), move(0, 3));
        for (int left = 1; left <= 5; left++) {
            for (int n = 0; n <= 2; n++) {
                boolean refuted = left == 1 || (isOdd(left - 2) && n >= left - 2);
                Game y = left(left);
                Bounds.due("safe(0, 1, " + n + ", 0) with " + left + " left", y.safe(0, 1, n, 0), refuted ? -2 : 2);
                Bounds.due("reply(0, 1, " + n + ", 0) with " + left + " left", y.reply(0, 1, n, 0), refuted ? -2 : move(6, 7));
                Bounds.due("reply(0, 1, " + n + ", 1) with " + left + " left", y.reply(0, 1, n, 1), refuted ? -2 : move(6, 7));
            }
        }
        terms("REFUTED: the other's first MOVE to which there is none such (or that ends it so that they have lost).");
        for (int left = 1; left <= 5; left++) {
            for (int n = 0; n <= 2; n++) {
                boolean refuted = left == 1 || (isOdd(left - 2) && n >= left - 2);
                Bounds.due("refuted(0, 1, " + n + ") with " + left + " left", left(left).refuted(0, 1, n), refuted ? move(0, 1) : -2);
            }
        }
        for (int n = 0; n <= 2; n++) {
            Bounds.due("refuted(): the second MOVE takes the king", taking().refuted(0, 1, n), move(0, 3));
            Bounds.due("safe()", taking().safe(0, 1, n, 0), -2);
        }
        Bounds.due("reply() to the first", taking().reply(0, 1, 0, 0), move(3, 4));
        Bounds.due("reply() to the second", taking().reply(0, 1, 0, 1), -2);
    }

    /** The first of player 0's MOVES is quiet, the second takes player 1's king, who has another stone. */
    private static Game taking() {
        return Game.told("kind k leaps 1 0 king;kind a leaps 1 0 0 1;kind b leaps 1 0;stone a 0 0 0;stone k 1 0 1;stone b 1 0 2;");
    }

    private static void fewest() {
        terms("FEWEST: the least n 1, 3 with which whoever is to move WINS in n: n and 1 by 2 letters.");
        int[] due = {-2, 1, -2, 2, -2, -2, -2, -2};
        for (int left = 0; left < due.length; left++) {
            Bounds.due("fewest(0) with " + left + " left", left(left).fewest(0), due[left]);
        }
        Bounds.promise(27, "FEWEST: 1 or 2 letters;");
        Bounds.due("fewest(0) in 1", left(1).fewest(0), 1);
        Bounds.due("fewest(3) in 3", left(3).fewest(3), 2);
        Bounds.promise(27, "-2: not by so few;");
        Bounds.due("fewest(0) in 5", left(5).fewest(0), -2);
        Bounds.due("fewest(0) of who loses", left(2).fewest(0), -2);
        Bounds.due("fewest(0) of who has lost", left(0).fewest(0), -2);
        Bounds.due("fewest(0) of a new one", new Game().fewest(0), -2);
        Bounds.promise(27, "NONE: no such VIEW.");
        for (int view : NO_VIEWS) {
            Bounds.due("fewest(" + view + ")", left(1).fewest(view), Bounds.NONE);
        }
    }

    /** Of player 0's stones one can run to four points, one to as many as told; player 1 goes aside. */
    private static Game wide(int more) {
        return Game.told("board 5 5;kind a runs 1 0;kind c leaps 1 0 -1 0;stone a 0 0 0;stone a 0 " + (4 - more) + " 1;stone c 1 0 4;");
    }

    private static void safe() {
        Bounds.promise(24, "SAFE letter (n 0 .. 2), what 0: how many IFS it takes (1, if they are to move), 1: whether 6 do (1, 0).");
        for (int more = 0; more <= 4; more++) {
            Game x = wide(more);
            Bounds.due("moves(0)", x.moves(0), 4 + more);
            Bounds.due("safe(0, 1, 2, 0) of " + (4 + more), x.safe(0, 1, 2, 0), 4 + more);
            Bounds.due("safe(0, 1, 2, 1) of " + (4 + more), x.safe(0, 1, 2, 1), more <= 2 ? 1 : 0);
            Bounds.due("safe(0, 0, 2, 0) of who is to move", x.safe(0, 0, 2, 0), 1);
            Bounds.due("safe(0, 0, 2, 1) of who is to move", x.safe(0, 0, 2, 1), 1);
        }
        Bounds.promise(24, "-2: REFUTED, or they have lost now; 0 at another END;");
        for (int what = 0; what < 2; what++) {
            Bounds.due("safe() REFUTED", left(1).safe(0, 1, 0, what), -2);
            Bounds.due("safe() of who has no MOVE that is", left(2).safe(0, 0, 1, what), -2);
            Bounds.due("safe() of who has lost now", left(0).safe(0, 0, 0, what), -2);
            Bounds.due("safe() of who has won now", left(0).safe(0, 1, 0, what), 0);
            Bounds.due("safe() where player 1 has lost", lostByOne().safe(0, 1, 0, what), -2);
            Bounds.due("safe() where player 0 has won", lostByOne().safe(0, 0, 0, what), 0);
            for (int player = 0; player < 2; player++) {
                Bounds.due("safe() where it is DRAWN", RuleBounds.again("", 8).safe(0, player, 0, what), 0);
                Bounds.due("safe() behind 60 MOVES", RuleBounds.sixty("", 60).safe(0, player, 2, what), 0);
            }
        }
        Bounds.promise(24, "NONE: no such ones.");
        for (Game x : new Game[] {left(9), left(0)}) {
            for (int wrong : new int[] {-1, 3, Bounds.MIN, Bounds.MAX}) {
                Bounds.due("safe(0, 0, " + wrong + ", 0)", x.safe(0, 0, wrong, 0), Bounds.NONE);
            }
            for (int wrong : new int[] {-1, 2, Bounds.MIN, Bounds.MAX}) {
                Bounds.due("safe(0, " + wrong + ", 0, 0)", x.safe(0, wrong, 0, 0), Bounds.NONE);
                Bounds.due("safe(0, 0, 0, " + wrong + ")", x.safe(0, 0, 0, wrong), Bounds.NONE);
                Bounds.due("safe(0, 1, 0, " + wrong + ")", x.safe(0, 1, 0, wrong), Bounds.NONE);
            }
            for (int view : NO_VIEWS) {
                Bounds.due("safe(" + view + ", 0, 0, 0)", x.safe(view, 0, 0, 0), Bounds.NONE);
            }
        }
    }

    /** Player 1 has lost behind one MOVE. */
    private static Game lostByOne() {
        Game x = left(1);
        x.letter(0, 0, 0, -1);
        x.when(0, -1, move(0, 1));
        Bounds.due("end(0)", x.end(0), 1);
        return x;
    }

    private static void reply() {
        Bounds.promise(25, "The MOVE of a SAFE letter (if they aren't to move: behind the other's k-th LAWFUL MOVE; else k 0);");
        Game x = wide(4);
        for (int k = 0; k < 8; k++) {
            Bounds.due("reply(0, 1, 2, " + k + ")", x.reply(0, 1, 2, k), move(20, 21));
        }
        Bounds.due("reply(0, 0, 2, 0)", x.reply(0, 0, 2, 0), 1);
        // player 1 can't go where player 0 has come first
        Game y = Game.told("board 3 2;kind a leaps 1 0 0 1;kind b leaps -1 0 0 1;stone a 0 0 0;stone b 1 2 0;law takes = 0;");
        Bounds.due("reply() behind the first", y.reply(0, 1, 0, 0), move(2, 5));
        Bounds.due("reply() behind the second", y.reply(0, 1, 0, 1), move(2, 1));
        Bounds.promise(25, "-2: none is;");
        Bounds.due("reply() of who is to move", left(2).reply(0, 0, 1, 0), -2);
        Bounds.due("reply() of who isn't", left(3).reply(0, 1, 1, 1), -2);
        Bounds.due("reply() of who is, in 0", left(2).reply(0, 0, 0, 0), move(0, 1));
        Bounds.promise(25, "NONE: no such ones, an END.");
        for (int k : new int[] {-1, 8, Bounds.MIN, Bounds.MAX}) {
            Bounds.due("reply(0, 1, 0, " + k + ")", x.reply(0, 1, 0, k), Bounds.NONE);
        }
        for (int k : new int[] {-1, 1, 7, Bounds.MIN, Bounds.MAX}) {
            Bounds.due("reply(0, 0, 0, " + k + ")", x.reply(0, 0, 0, k), Bounds.NONE);
            Bounds.due("reply(0, 0, 1, " + k + ") where none is", left(2).reply(0, 0, 1, k), Bounds.NONE);
        }
        for (int wrong : new int[] {-1, 3, Bounds.MIN, Bounds.MAX}) {
            Bounds.due("reply(0, 0, " + wrong + ", 0)", x.reply(0, 0, wrong, 0), Bounds.NONE);
            Bounds.due("reply(0, 1, " + wrong + ", 0)", x.reply(0, 1, wrong, 0), Bounds.NONE);
        }
        for (int wrong : new int[] {-1, 2, Bounds.MIN, Bounds.MAX}) {
            Bounds.due("reply(0, " + wrong + ", 0, 0)", x.reply(0, wrong, 0, 0), Bounds.NONE);
        }
        for (int view : NO_VIEWS) {
            Bounds.due("reply(" + view + ", 0, 0, 0)", x.reply(view, 0, 0, 0), Bounds.NONE);
        }
        for (Game end : new Game[] {new Game(), left(0), lostByOne(), RuleBounds.again("", 8), RuleBounds.sixty("", 60)}) {
            Bounds.due("reply() of player 0 at an END", end.reply(0, 0, 0, 0), Bounds.NONE);
            Bounds.due("reply() of player 1 at an END", end.reply(0, 1, 0, 0), Bounds.NONE);
        }
    }

    private static void refuted() {
        Bounds.promise(26, "REFUTED: the other's MOVE;");
        Bounds.due("refuted(0, 1, 0)", left(1).refuted(0, 1, 0), move(0, 1));
        Bounds.due("refuted(0, 1, 1)", left(3).refuted(0, 1, 1), move(0, 1));
        Bounds.due("refuted(0, 1, 2)", taking().refuted(0, 1, 2), move(0, 3));
        Bounds.promise(26, "-2: there is none, it is an END, or they are to move;");
        Bounds.due("refuted(0, 1, 0): none", left(3).refuted(0, 1, 0), -2);
        Bounds.due("refuted(0, 1, 2): none", left(5).refuted(0, 1, 2), -2);
        Game corner = Game.told("kind a leaps 1 0 -1 0;stone a 1 0 0;stone a 0 1 2;");
        for (int n = 0; n <= 2; n++) {
            Bounds.due("refuted(0, 1, n): none, of one stone on point 0", corner.refuted(0, 1, n), -2);
            Bounds.due("safe(0, 1, n, 0) of one stone on point 0", corner.safe(0, 1, n, 0), 2);
        }
        for (Game end : new Game[] {new Game(), left(0), lostByOne(), RuleBounds.again("", 8), RuleBounds.sixty("", 60)}) {
            Bounds.due("refuted() of player 0 at an END", end.refuted(0, 0, 1), -2);
            Bounds.due("refuted() of player 1 at an END", end.refuted(0, 1, 1), -2);
        }
        for (int n = 0; n <= 2; n++) {
            Bounds.due("refuted() of who is to move and loses", left(2).refuted(0, 0, n), -2);
            Bounds.due("refuted() of who is to move and wins", left(1).refuted(0, 0, n), -2);
        }
        Bounds.promise(26, "NONE: no such ones.");
        for (Game x : new Game[] {left(1), left(0)}) {
            for (int wrong : new int[] {-1, 3, Bounds.MIN, Bounds.MAX}) {
                Bounds.due("refuted(0, 1, " + wrong + ")", x.refuted(0, 1, wrong), Bounds.NONE);
            }
            for (int wrong : new int[] {-1, 2, Bounds.MIN, Bounds.MAX}) {
                Bounds.due("refuted(0, " + wrong + ", 0)", x.refuted(0, wrong, 0), Bounds.NONE);
            }
            for (int view : NO_VIEWS) {
                Bounds.due("refuted(" + view + ", 1, 0)", x.refuted(view, 1, 0), Bounds.NONE);
            }
        }
    }

    static void all() {
        sure();
        games();
        lostAndWins();
        safeLetters();
        fewest();
        safe();
        reply();
        refuted();
    }
}
