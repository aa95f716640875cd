/** Promises 28, 30 and 31: clocks by postmarks, forged postmarks, lateness by lot. */
public final class OfficeTests {
    private static void clocks() {
        PostStones x = Due.told("days 7;");
        Due.due("clock(0, 0) without letters", x.clock(0, 0), 0);
        x.letter(0, 3, 10, -1);
        Due.due("clock(0, 0): the first one's MARK", x.clock(0, 0), 3);
        x.letter(0, 9, 12, -1);
        Due.due("clock(0, 0): another one that answers none", x.clock(0, 0), 3);
        x.letter(1, 14, 20, 0);
        Due.due("clock(1, 0): from the ARRIVAL on", x.clock(1, 0), 4);
        x.letter(1, 5, 9, 1);
        Due.due("clock(1, 0): 0 at least", x.clock(1, 0), 4);
        x.letter(0, 24, 30, 2);
        Due.due("clock(0, 0)", x.clock(0, 0), 7);
        Due.due("clock(0, 1): days and no more", x.clock(0, 1), 0);
        x.resent(4, 900, 902);
        Due.due("clock(0, 0): one sent again is left out", x.clock(0, 0), 7);
        x.letter(1, 905, 910, 5);
        Due.due("clock(1, 0): it is answered from its own ARRIVAL on", x.clock(1, 0), 7);
        x.letter(0, 21, 30, 2);
        Due.due("clock(0, 0)", x.clock(0, 0), 8);
        Due.due("clock(0, 1)", x.clock(0, 1), 1);
        Due.due("clock(1, 1)", x.clock(1, 1), 0);
        Due.due("clock(2, 0)", x.clock(2, 0), -1);
        Due.due("clock(-1, 0)", x.clock(-1, 0), -1);
        Due.due("clock(0, 2)", x.clock(0, 2), -1);
        Due.due("clock(0, -1)", x.clock(0, -1), -1);
        PostStones y = new PostStones();
        y.letter(0, 61, 62, -1);
        Due.due("clock(0, 1): 60 days without a LINE", y.clock(0, 1), 1);
    }

    private static void forged() {
        PostStones x = Due.told("post 2 4;");
        Due.due("forged() without letters", x.forged(), 0);
        x.letter(0, 1, 3, -1);
        x.letter(1, 3, 7, 0);
        Due.due("forged(): least and most are true, a MARK on the ARRIVAL, too", x.forged(), 0);
        x.letter(0, 8, 12, 1);
        x.letter(1, 11, 13, 2);
        Due.due("forged(): one is marked ahead of what it answers", x.forged(), 4 | 8);
        x.letter(1, 10, 13, 0);
        x.letter(0, 9, 12, 4);
        Due.due("forged(): of two pairs the least bits", x.forged(), 4 | 8);
        x.letter(0, 20, 21, -1);
        Due.due("forged(): one alone is fewer; too fast", x.forged(), 64);
        x.log(5, 9);
        x.log(5, 12);
        Due.due("forged(): LOGS on the MARK and the ARRIVAL hold", x.forged(), 64);
        x.log(5, 13);
        Due.due("forged(): seen behind its ARRIVAL", x.forged(), 32);
        x.log(1, 2);
        Due.due("forged(): seen ahead of its MARK, the least bits", x.forged(), 2);
        PostStones y = Due.told("post 2 4;");
        y.letter(0, 5, 10, -1);
        Due.due("forged(): too slow", y.forged(), 1);
        y.undo();
        y.letter(0, 5, 8, -1);
        y.log(0, 9);
        y.log(0, 7);
        Due.due("forged(): the first LOG doesn't hold", y.forged(), 1);
        PostStones z = new PostStones();
        z.letter(0, 5, 9, -1);
        z.letter(0, 5, 16, -1);
        Due.due("forged(): 4 to 11 days without a LINE", z.forged(), 0);
        z.letter(1, 20, 24, 1);
        z.resent(2, 15, 19);
        Due.due("forged(): one sent again answers the same", z.forged(), 2 | 8);
    }

    /** Draws of two letters marked on 0 and 1 in which the first isn't there on day 3, by 2 to 4 days each. */
    private static int absentFirst(long seed, int draws) {
        int otherwise = 0;
        for (int i = 0; i < draws; i++) {
            seed = (seed * 1103515245L + 12345) % 2147483648L;
            otherwise += 2 + seed / 65536 % 3 > 3 ? 1 : 0;
            seed = (seed * 1103515245L + 12345) % 2147483648L;
        }
        return otherwise;
    }

    private static void lots() {
        // seed 0 draws 0, 21468, 9988, 22117, 3498, 16927, ...: modulo 3 0, 0, 1, 1, 0, 1, 1, 1, 2, 1
        PostStones x = Due.told(LetterTests.GAME);
        x.letter(0, 1, 4, -1);
        x.when(0, -1, 133);
        x.day(4);
        Due.due("lot(2, 0, 8)", x.lot(2, 0, 8), 0);
        Due.due("lot(2, 0, 9)", x.lot(2, 0, 9), 1);
        x.day(3);
        Due.due("lot(2, 0, 1) on day 3: it came early", x.lot(2, 0, 1), 1);
        Due.due("lot(2, 0, 3)", x.lot(2, 0, 3), 2);
        Due.due("lot(3, 0, 3)", x.lot(3, 0, 3), 2);
        Due.due("lot(1, 0, 20): one's own doesn't matter", x.lot(1, 0, 20), 0);
        Due.due("lot(0, 0, 20): nor to the umpire", x.lot(0, 0, 20), 0);
        x.letter(0, 1, 4, -1);
        x.when(0, -1, 133);
        Due.due("lot(2, 0, 4): the same row by the other letter", x.lot(2, 0, 4), 2);
        // letter 1 comes on day 3 now and then; it counts only ahead of letter 0 if that isn't there
        PostStones y = Due.told(LetterTests.GAME);
        y.letter(0, 0, 2, -1);
        y.when(0, -1, 133);
        y.letter(0, 1, 9, -1);
        y.when(0, -1, 1);
        y.day(4);
        Due.due("lot(2, 0, 4): letter 1 there, the same row", y.lot(2, 0, 4), 0);
        y.day(3);
        Due.due("lot(2, 0, 4) on day 3", y.lot(2, 0, 4), 0);
        Due.due("lot(2, 1, 20) on day 3: now the other one alone", y.lot(2, 1, 20), absentFirst(1, 20));
        PostStones z = Due.told("kind a leaps 1 0;stone a 0 0 0;stone a 1 0 1;post 2 2;");
        z.letter(0, 1, 4, -1);
        z.when(0, -1, 1);
        z.day(3);
        Due.due("lot(2, 5, 7): always in two days", z.lot(2, 5, 7), 7);
        Due.due("lot(4, 0, 1)", x.lot(4, 0, 1), -1);
        Due.due("lot(-1, 0, 1)", x.lot(-1, 0, 1), -1);
        Due.due("lot(0, -1, 1)", x.lot(0, -1, 1), -1);
        Due.due("lot(0, 2147483647, 1)", x.lot(0, 2147483647, 1), 0);
        Due.due("lot(0, 0, 0)", x.lot(0, 0, 0), -1);
        Due.due("lot(0, 0, 21)", x.lot(0, 0, 21), -1);
        Due.due("lot() leaves the letters", x.post(0, 2), 4);
        Due.due("lot() leaves the rows", x.plies(2), 0);
    }

    public static void main(String[] args) {
        clocks();
        forged();
        lots();
        Due.close();
    }
}
