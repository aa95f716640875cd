import java.math.BigInteger;

/** The bounds of the office: clocks of part 3, TRUE, FORGED and LOT of part 4, promises 28, 30 and 31. */
final class OfficeBounds {
    private static final String STONES = "kind k leaps 1 0 0 1;stone k 0 0 0;stone k 1 1 1;";

    private OfficeBounds() { }

    private static void terms(String words) {
        Bounds.sentence(Bounds.TERMS, words);
    }

    private static void clocks() {
        terms("CLOCK of a player, RESENT letters left out: of each letter of his that answers one: MARK less that one's ARRIVAL, 0 at least; "
            + "the first of his, if it answers none, its MARK; OVERSTEPPED: more than days in all.");
        for (int player = 0; player < 2; player++) {
            int other = 1 - player;
            Game x = Game.told("days 7;");
            Bounds.due("clock() without letters", x.clock(player, 0), 0);
            x.letter(player, 3, 10, -1);
            Bounds.due("clock(): the first one's MARK", x.clock(player, 0), 3);
            x.letter(player, 900, 901, -1);
            Bounds.due("clock(): another one that answers none", x.clock(player, 0), 3);
            Bounds.due("clock() of the other", x.clock(other, 0), 0);
            x.letter(other, 10, 20, 0);
            Bounds.due("clock(): a MARK on the ARRIVAL", x.clock(other, 0), 0);
            x.letter(other, 9, 21, 0);
            Bounds.due("clock(): a MARK ahead of the ARRIVAL is 0, not less", x.clock(other, 0), 0);
            x.letter(other, 11, 21, 0);
            Bounds.due("clock(): a MARK behind the ARRIVAL", x.clock(other, 0), 1);
            x.letter(player, 24, 30, 2);
            Bounds.due("clock()", x.clock(player, 0), 7);
            Bounds.due("clock(): days and no more", x.clock(player, 1), 0);
            x.resent(5, 800, 810);
            Bounds.due("clock(): one sent again is left out", x.clock(player, 0), 7);
            x.letter(other, 813, 814, 6);
            Bounds.due("clock(): but it can be answered", x.clock(other, 0), 4);
            x.letter(player, 22, 30, 3);
            Bounds.due("clock()", x.clock(player, 0), 8);
            Bounds.due("clock(): a day more", x.clock(player, 1), 1);
            Bounds.due("clock() of the other", x.clock(other, 1), 0);
        }
        Game first = Game.told("days 0;");
        first.letter(1, 5, 6, -1);
        first.letter(0, 9, 12, 0);
        first.letter(0, 50, 60, -1);
        Bounds.due("clock(): the first of his answers one, so a later one's MARK isn't taken", first.clock(0, 0), 3);
        Game zero = Game.told("days 0;");
        zero.letter(0, 0, 5, -1);
        Bounds.due("clock(0, 1) of 0 days", zero.clock(0, 1), 0);
        zero.letter(1, 1, 5, -1);
        Bounds.due("clock(1, 1) of 0 days", zero.clock(1, 1), 1);
        Game most = Game.told("days 999;");
        most.letter(0, 999, 0, -1);
        Bounds.due("clock(0, 1) of 999 days", most.clock(0, 1), 0);
        most.letter(1, 1, 0, -1);
        most.letter(0, 1, 0, 1);
        Bounds.due("clock(0, 0)", most.clock(0, 0), 1000);
        Bounds.due("clock(0, 1) of 1000 days", most.clock(0, 1), 1);
        clock();
    }

    private static void clock() {
        Bounds.promise(28, "CLOCK of a player, what 0: days, 1: whether it is OVERSTEPPED.");
        Game x = Game.told("days 5;");
        x.letter(0, 5, 9, -1);
        x.letter(1, 6, 9, -1);
        int[][] due = {{5, 0}, {6, 1}};
        for (int player = 0; player < 2; player++) {
            for (int what = 0; what < 2; what++) {
                Bounds.due("clock(" + player + ", " + what + ")", x.clock(player, what), due[player][what]);
            }
        }
        // fifteen answers that took all days but one: the most that a clock can show
        Game long1 = Game.told("days 999;");
        long1.letter(0, 999, 0, -1);
        for (int i = 0; i < 15; i++) {
            long1.letter(1, 999, 0, 0);
        }
        Bounds.due("clock(1, 0) of fifteen", long1.clock(1, 0), 15 * 999);
        Bounds.promise(28, "NONE: no such ones.");
        for (int wrong : new int[] {-1, 2, Bounds.MIN, Bounds.MAX}) {
            Bounds.due("clock(" + wrong + ", 0)", x.clock(wrong, 0), Bounds.NONE);
            Bounds.due("clock(0, " + wrong + ")", x.clock(0, wrong), Bounds.NONE);
        }
    }

    private static void truth() {
        terms("TRUE: a set of letters is true, if each one's LATENESS is as the post has it, each that answers one in the set has a MARK not ahead "
            + "of that one's ARRIVAL, and each LOG holds: a letter was seen on a day not ahead of its MARK, not behind its ARRIVAL.");
        for (int days = -1; days <= 6; days++) {
            Game x = Game.told("post 2 4;");
            x.letter(0, 10, 10 + days, -1);
            Bounds.due("forged() of one that took " + days, x.forged(), days < 2 || days > 4 ? 1 : 0);
        }
        for (int mark = 12; mark <= 15; mark++) {
            Game x = Game.told("post 2 4;");
            x.letter(0, 10, 13, -1);
            x.letter(1, mark, mark + 2, 0);
            Bounds.due("forged() of an answer marked on " + mark, x.forged(), mark < 13 ? 3 : 0);
            Game apart = Game.told("post 2 4;");
            apart.letter(0, 10, 13, -1);
            apart.letter(1, mark, mark + 2, -1);
            Bounds.due("forged() of one that answers none, marked on " + mark, apart.forged(), 0);
        }
        for (int day : new int[] {0, 9, 10, 11, 13, 14, 999}) {
            Game x = Game.told("post 2 4;");
            x.letter(1, 10, 14, -1);
            x.letter(0, 10, 13, -1);
            x.log(1, 12);
            x.log(1, day);
            x.log(1, 12);
            Bounds.due("forged() of one seen on " + day, x.forged(), day < 10 || day > 13 ? 2 : 0);
        }
        Game again = Game.told("post 2 4;");
        again.letter(0, 10, 13, -1);
        again.letter(1, 14, 16, 0);
        again.resent(1, 12, 14);
        Bounds.due("forged(): one sent again answers, too", again.forged(), 5);
        again.resent(2, 20, 25);
        Bounds.due("forged(): one sent again is late, too", again.forged(), 8);
    }

    private static void forged() {
        terms("FORGED: the set with the fewest (then the least bits) that isn't true.");
        Game x = Game.told("post 2 4;");
        x.letter(0, 10, 12, -1);
        x.letter(0, 10, 13, -1);
        x.letter(1, 12, 14, 1);
        Bounds.due("forged(): 1 and 2", x.forged(), 6);
        x.letter(1, 11, 14, 0);
        Bounds.due("forged(): 0 and 3 are more bits", x.forged(), 6);
        x.letter(0, 13, 16, 3);
        Bounds.due("forged(): 3 and 4, too", x.forged(), 6);
        x.letter(0, 10, 15, -1);
        Bounds.due("forged(): 5 alone is fewer", x.forged(), 32);
        x.letter(0, 10, 11, -1);
        Bounds.due("forged(): 6 alone is more bits", x.forged(), 32);
        x.log(4, 12);
        Bounds.due("forged(): 4 alone by its LOG", x.forged(), 16);
        Game least = Game.told("post 2 4;");
        least.letter(0, 10, 13, -1);
        least.letter(1, 10, 13, -1);
        least.letter(1, 12, 14, 0);
        least.letter(0, 12, 14, 1);
        Bounds.due("forged(): 0 and 2 are less than 1 and 3", least.forged(), 5);
        least.undo();
        least.undo();
        least.letter(0, 12, 14, 1);
        least.letter(1, 12, 14, 0);
        Bounds.due("forged(): 1 and 2 are less than 0 and 3", least.forged(), 6);
        Bounds.promise(30, "FORGED (bits); 0: all are true.");
        Bounds.due("forged() without letters", new Game().forged(), 0);
        Game sixteen = Game.told("post 2 4;");
        for (int i = 0; i < 15; i++) {
            sixteen.letter(0, i, i + 3, -1);
        }
        Bounds.due("forged() of 15", sixteen.forged(), 0);
        sixteen.letter(1, 16, 18, 14);
        Bounds.due("forged() of the last two of 16", sixteen.forged(), 0xC000);
        sixteen.undo();
        sixteen.letter(1, 16, 21, -1);
        Bounds.due("forged() of the last one of 16", sixteen.forged(), 0x8000);
    }

    /** The days that the letters of all draws take beyond the least, by the words of the document. */
    private static int[] numbers(int seed, int many, int span) {
        int[] days = new int[many];
        BigInteger last = BigInteger.valueOf(seed);
        for (int i = 0; i < many; i++) {
            last = last.multiply(BigInteger.valueOf(1103515245)).add(BigInteger.valueOf(12345)).mod(BigInteger.valueOf(2).pow(31));
            days[i] = last.divide(BigInteger.valueOf(65536)).mod(BigInteger.valueOf(span)).intValue();
        }
        return days;
    }

    /** A heap of so many letters marked on 100, of which only this one tells a MOVE; it came on this day. */
    private static Game drawn(int letters, int which, int least, int most, int came) {
        Game x = Game.told(STONES + "post " + least + " " + most + ";");
        for (int i = 0; i < letters; i++) {
            x.letter(0, 100, i == which ? came : 100, -1);
            if (i == which) {
                x.when(0, -1, 1);
            }
        }
        return x;
    }

    private static void lotOf(int letters, int which, int[] post, int seed) {
        int span = post[1] - post[0] + 1;
        int[] more = numbers(seed, 20 * letters, span);
        for (int came : new int[] {0, 999}) {
            Game x = drawn(letters, which, post[0], post[1], came);
            for (int beyond : new int[] {-1, 0, span / 2, span - 2, span - 1}) {
                int day = 100 + post[0] + beyond;
                x.day(day);
                for (int draws : new int[] {1, 2, 19, 20}) {
                    int due = 0;
                    for (int draw = 0; draw < draws; draw++) {
                        boolean there = more[draw * letters + which] <= beyond;
                        due += there == came <= day ? 0 : 1;
                    }
                    Bounds.due("lot(2, " + seed + ", " + draws + ") of letter " + which + " of " + letters + ", " + post[0] + " to " + post[1]
                        + " days, on " + day, x.lot(2, seed, draws), due);
                    Bounds.due("lot(3, ..)", x.lot(3, seed, draws), due);
                }
            }
        }
    }

    private static void lots() {
        terms("LOT: in a draw each letter takes the least time and a number modulo (most less least, and 1) days more, by numbers: "
            + "in how many draws a VIEW's ROW on the DAY is otherwise than it is. Numbers are the last one (at first the seed, 0 .. 2147483647) "
            + "times 1103515245 and 12345, without what is above 31 bits, by 65536.");
        int[][] posts = {{2, 4}, {0, 60}, {30, 60}, {0, 1}, {4, 11}, {7, 7}};
        for (int[] post : posts) {
            for (int seed : new int[] {0, 1, 2, 65535, 65536, 1103515245, 1073741824, Bounds.MAX - 1, Bounds.MAX}) {
                lotOf(1, 0, post, seed);
                lotOf(3, 1, post, seed);
            }
        }
        lotOf(16, 0, posts[0], 5);
        lotOf(16, 15, posts[1], Bounds.MAX);
        Game own = drawn(1, 0, 2, 4, 999);
        own.day(101);
        Bounds.due("lot(1, ..): one's own is known by its MARK", own.lot(1, 0, 20), 0);
        Bounds.due("lot(0, ..): the umpire's is known whenever", own.lot(0, 0, 20), 0);
        Game same = drawn(1, 0, 7, 7, 999);
        same.letter(0, 100, 0, -1);
        same.when(0, -1, 1);
        same.day(105);
        Bounds.due("lot(2, ..): neither is there", same.lot(2, 0, 20), 20);
        same.day(107);
        Bounds.due("lot(2, ..): the same MOVE by the other letter", same.lot(2, 0, 20), 0);
        otherMoves();
        sentAgain();
        lot();
    }

    /** The ROW is as long as it is, but by another MOVE: the first one, or one behind it. */
    private static void otherMoves() {
        Game first = Game.told(STONES + "post 7 7;");
        first.letter(0, 100, 105, -1);
        first.when(0, -1, 1);
        first.letter(0, 98, 999, -1);
        first.when(0, -1, 3);
        first.day(105);
        Bounds.due("plies(2)", first.plies(2), 1);
        Bounds.due("lot(2, ..): another first MOVE", first.lot(2, 0, 20), 20);
        Bounds.due("lot(1, ..): one's own are known", first.lot(1, 0, 20), 0);
        Game second = Game.told("kind k leaps 1 0 0 1 -1 0;stone k 0 0 0;stone k 1 1 1;post 7 7;");
        second.letter(0, 90, 90, -1);
        second.when(0, -1, 1);
        second.letter(1, 100, 105, -1);
        second.when(1, -1, 64 * 4 + 5);
        second.letter(1, 98, 999, -1);
        second.when(1, -1, 64 * 4 + 7);
        second.day(105);
        Bounds.due("plies(3)", second.plies(3), 2);
        Bounds.due("lot(3, ..): another second MOVE", second.lot(3, 0, 20), 20);
    }

    private static void sentAgain() {
        for (int seed = 0; seed < 30; seed++) {
            int[] more = numbers(seed, 60, 3);
            for (int which = 0; which < 3; which++) {
                Game x = Game.told(STONES + "post 2 4;");
                x.letter(0, which == 2 ? 900 : 100, 999, -1);
                x.when(0, -1, 1);
                x.resent(0, which == 0 ? 900 : 100, 999);
                x.letter(0, 900, 999, -1);
                x.resent(0, which == 0 ? 900 : 100, 999);
                x.undo();
                x.day(103);
                int due = 0;
                for (int draw = 0; draw < 20; draw++) {
                    boolean one = which != 2 && more[3 * draw] <= 1;
                    boolean two = which != 0 && more[3 * draw + 1] <= 1;
                    due += one || two ? 1 : 0;
                }
                Bounds.due("lot(2, " + seed + ", 20) with one sent again, case " + which, x.lot(2, seed, 20), due);
            }
        }
    }

    private static void lot() {
        Bounds.promise(31, "LOT of 1 .. 20 draws: how many;");
        Game x = drawn(1, 0, 7, 7, 999);
        x.day(107);
        Bounds.due("lot(2, 0, 1)", x.lot(2, 0, 1), 1);
        Bounds.due("lot(2, 0, 20)", x.lot(2, 0, 20), 20);
        Bounds.due("lot(3, MAX, 20)", x.lot(3, Bounds.MAX, 20), 20);
        Bounds.due("lot(2, 0, 20) without letters", new Game().lot(2, 0, 20), 0);
        Bounds.due("post(0, 2) is as it was", x.post(0, 2), 999);
        Bounds.due("plies(2) is as it was", x.plies(2), 0);
        Bounds.promise(31, "NONE: no such ones.");
        for (int draws : new int[] {-1, 0, 21, Bounds.MIN, Bounds.MAX}) {
            Bounds.due("lot(2, 0, " + draws + ")", x.lot(2, 0, draws), Bounds.NONE);
        }
        for (int seed : new int[] {-1, Bounds.MIN}) {
            Bounds.due("lot(2, " + seed + ", 1)", x.lot(2, seed, 1), Bounds.NONE);
        }
        for (int view : new int[] {-1, 4, Bounds.MIN, Bounds.MAX}) {
            Bounds.due("lot(" + view + ", 0, 1)", x.lot(view, 0, 1), Bounds.NONE);
        }
        Bounds.refused("lot(2, 0, 20)", () -> drawn(2, 1, 0, 60, 130), g -> g.lot(2, 0, 20) * 0, 0);
    }

    static void all() {
        clocks();
        truth();
        forged();
        lots();
    }
}
