/** Promises 7 to 12, 29 and 32 to 34: days, letters, their ifs, logs, what is taken back, images. */
public final class LetterTests {
    /** A king each on the left, and a runner of player 0. */
    static final String GAME = "board 3 3;kind k leaps 1 0 -1 0 0 1 0 -1 king;kind r runs 0 1 0 -1;"
        + "stone k 0 0 0;stone r 0 2 0;stone k 1 0 2;post 2 4;days 10;";

    private static void days() {
        PostStones x = new PostStones();
        Due.due("day(0)", x.day(0) ? 1 : 0, 1);
        Due.due("day(999)", x.day(999) ? 1 : 0, 1);
        Due.due("day(1000)", x.day(1000) ? 1 : 0, 0);
        Due.due("day(-1)", x.day(-1) ? 1 : 0, 0);
        Due.due("count(7)", x.count(7), 999);
    }

    private static void letters() {
        PostStones x = Due.told(GAME);
        Due.due("letter of player 2", x.letter(2, 1, 1, -1), -1);
        Due.due("letter of player -1", x.letter(-1, 1, 1, -1), -1);
        Due.due("letter marked on -1", x.letter(0, -1, 1, -1), -1);
        Due.due("letter marked on 1000", x.letter(0, 1000, 1, -1), -1);
        Due.due("letter there on -1", x.letter(0, 1, -1, -1), -1);
        Due.due("letter there on 1000", x.letter(0, 1, 1000, -1), -1);
        Due.due("letter that answers 0, not there", x.letter(0, 1, 1, 0), -1);
        Due.due("letter that answers -2", x.letter(0, 1, 1, -2), -1);
        Due.due("letter", x.letter(0, 999, 0, -1), 0);
        Due.due("letter that answers one's own", x.letter(0, 1, 2, 0), -1);
        Due.due("letter that answers itself", x.letter(1, 1, 2, 1), -1);
        Due.due("letter that answers", x.letter(1, 1, 4, 0), 1);
        int[] first = {0, 999, 0, -1, 0, -1, -999};
        int[] second = {1, 1, 4, 0, 0, -1, 3};
        for (int what = 0; what < 7; what++) {
            Due.due("post(0, " + what + ")", x.post(0, what), first[what]);
            Due.due("post(1, " + what + ")", x.post(1, what), second[what]);
        }
        Due.due("post(0, 7)", x.post(0, 7), Integer.MIN_VALUE);
        Due.due("post(0, -1)", x.post(0, -1), Integer.MIN_VALUE);
        Due.due("post(2, 0)", x.post(2, 0), Integer.MIN_VALUE);
        Due.due("post(-1, 0)", x.post(-1, 0), Integer.MIN_VALUE);
        for (int i = 2; i < 16; i++) {
            Due.due("letter " + i, x.letter(0, i, i, -1), i);
        }
        Due.due("a letter too many", x.letter(0, 1, 1, -1), -1);
        Due.due("a letter sent again too many", x.resent(0, 1, 1), -1);
    }

    private static void ifs() {
        PostStones x = Due.told(GAME);
        Due.due("when() without a letter", x.when(0, -1, 1), -1);
        x.letter(1, 0, 0, -1);
        Due.due("when() of the other's ply", x.when(0, -1, 1), -1);
        Due.due("when() at ply 59", x.when(59, 4095, 4095), 1);
        Due.due("when() at ply 61", x.when(61, -1, 1), -1);
        Due.due("when() at ply -1", x.when(-1, -1, 1), -1);
        Due.due("when() ahead -2", x.when(1, -2, 1), -1);
        Due.due("when() ahead 4096", x.when(1, 4096, 1), -1);
        Due.due("when() move -1", x.when(1, -1, -1), -1);
        Due.due("when() move 4096", x.when(1, -1, 4096), -1);
        for (int i = 2; i <= 6; i++) {
            Due.due("when() " + i, x.when(1, 0, 0), i);
        }
        Due.due("when() 7", x.when(1, 0, 0), -1);
        Due.due("post(0, 4)", x.post(0, 4), 6);
        x.letter(0, 0, 0, -1);
        Due.due("when() of player 0 at ply 1", x.when(1, -1, 1), -1);
        Due.due("when() at ply 60", x.when(60, -1, 1), -1);
        Due.due("when() comes to the last letter", x.when(58, -1, 1), 1);
    }

    private static void sentAgain() {
        PostStones x = Due.told(GAME);
        Due.due("resent() without a letter", x.resent(0, 1, 1), -1);
        x.letter(1, 1, 2, -1);
        x.letter(0, 3, 5, 0);
        x.when(0, -1, 1);
        x.when(2, -1, 64);
        Due.due("resent(1, -1, 1)", x.resent(1, -1, 1), -1);
        Due.due("resent(1, 1, 1000)", x.resent(1, 1, 1000), -1);
        Due.due("resent(2, 1, 1)", x.resent(2, 1, 1), -1);
        Due.due("resent(-1, 1, 1)", x.resent(-1, 1, 1), -1);
        Due.due("resent(1, 7, 10)", x.resent(1, 7, 10), 2);
        Due.due("resent(2, 8, 9)", x.resent(2, 8, 9), 3);
        int[] again = {0, 7, 10, 0, 2, 1, 3};
        int[] oncemore = {0, 8, 9, 0, 2, 2, 1};
        for (int what = 0; what < 7; what++) {
            Due.due("post(2, " + what + ")", x.post(2, what), again[what]);
            Due.due("post(3, " + what + ")", x.post(3, what), oncemore[what]);
        }
        Due.due("when() of one sent again", x.when(0, -1, 1), -1);
        Due.due("undo() takes one sent again whole", x.undo(), 3);
        Due.due("post(2, 4)", x.post(2, 4), 2);
        Due.due("undo()", x.undo(), 2);
        Due.due("when() goes on behind", x.when(4, -1, 1), 3);
    }

    private static void fates() {
        PostStones x = Due.told(GAME);
        x.letter(0, 5, 6, -1);
        x.when(0, 7, 1);      // there was no MOVE ahead of the first
        x.when(0, -1, 999);   // not lawful
        x.when(0, -1, 1);
        x.when(0, -1, 3);
        x.when(2, 391, 64);
        x.when(4, -1, 1);
        int[] why = {1, 3, 0, 2, 0, 0};
        int[] state = {-2, -2, 1, -2, 0, 0};
        for (int i = 0; i < 6; i++) {
            Due.due("whence(0, " + i + ", 0)", x.whence(0, i, 0), state[i]);
            Due.due("whence(0, " + i + ", 1)", x.whence(0, i, 1), why[i]);
        }
        x.letter(1, 7, 9, 0);
        x.when(1, -1, 999);
        Due.due("whence() where nothing lawful is told: its PLY isn't made", x.whence(1, 0, 0), 0);
        Due.due("whence() why", x.whence(1, 0, 1), 0);
        x.when(1, 3, 387);
        x.when(1, 1, 387);
        Due.due("whence(1, 0, 1)", x.whence(1, 0, 1), 3);
        Due.due("whence(1, 1, 1)", x.whence(1, 1, 1), 1);
        Due.due("whence(1, 2, 0)", x.whence(1, 2, 0), 1);
        Due.due("whence(0, 4, 0): not played behind 387", x.whence(0, 4, 0), 0);
        Due.due("whence(0, 6, 0)", x.whence(0, 6, 0), -1);
        Due.due("whence(0, -1, 0)", x.whence(0, -1, 0), -1);
        Due.due("whence(0, 0, 2)", x.whence(0, 0, 2), -1);
        Due.due("whence(0, 0, -1)", x.whence(0, 0, -1), -1);
        Due.due("whence(2, 0, 0)", x.whence(2, 0, 0), -1);
        Due.due("whence(-1, 0, 0)", x.whence(-1, 0, 0), -1);
        x.resent(0, 2, 4);
        Due.due("one sent again with an earlier mark plays", x.whence(2, 2, 0), 1);
        Due.due("and the first one's if is void", x.whence(0, 2, 1), 2);
        Due.due("the first one's unlawful if came behind it", x.whence(0, 1, 1), 2);
    }

    private static void takenBack() {
        PostStones x = Due.told(GAME);
        Due.due("undo() without a letter", x.undo(), -1);
        x.letter(0, 1, 4, -1);
        x.when(0, -1, 1);
        x.when(0, -1, 3);
        x.letter(1, 5, 8, 0);
        Due.due("log(2, 3)", x.log(2, 3), -1);
        Due.due("log(-1, 3)", x.log(-1, 3), -1);
        Due.due("log(0, -1)", x.log(0, -1), -1);
        Due.due("log(0, 1000)", x.log(0, 1000), -1);
        Due.due("log(0, 2)", x.log(0, 2), 1);
        Due.due("log(1, 6)", x.log(1, 6), 2);
        Due.due("log(0, 999)", x.log(0, 999), 3);
        Due.due("undo() of a letter", x.undo(), 1);
        Due.due("count(6): its LOGS went", x.count(6), 2);
        Due.due("undo() of an if", x.undo(), 1);
        Due.due("post(0, 4)", x.post(0, 4), 1);
        Due.due("count(6): an if has none", x.count(6), 2);
        Due.due("undo() of the other if", x.undo(), 1);
        Due.due("undo() of the letter", x.undo(), 0);
        Due.due("count(6)", x.count(6), 0);
        Due.due("count(5)", x.count(5), 0);
        x.letter(0, 1, 4, -1);
        for (int i = 1; i <= 20; i++) {
            Due.due("log " + i, x.log(0, 3), i);
        }
        Due.due("log 21", x.log(0, 3), -1);
    }

    private static void images() {
        PostStones x = Due.told(GAME);
        Due.due("back() without an image", x.back(), -1);
        Due.due("keep() of nothing", x.keep(), 0);
        x.letter(0, 1, 4, -1);
        x.when(0, -1, 1);
        x.log(0, 2);
        x.day(3);
        Due.due("keep()", x.keep(), 1);
        x.when(2, -1, 64);
        x.undo();
        x.undo();
        x.undo();
        x.letter(1, 9, 9, -1);
        x.when(1, -1, 387);
        x.day(8);
        Due.due("back()", x.back(), 1);
        Due.due("post(0, 0)", x.post(0, 0), 0);
        Due.due("post(0, 4)", x.post(0, 4), 1);
        Due.due("count(6)", x.count(6), 1);
        Due.due("count(7)", x.count(7), 3);
        Due.due("row(0, 0)", x.row(0, 0), 1);
        x.letter(1, 9, 9, -1);
        Due.due("back() again", x.back(), 1);
        Due.due("keep() does not change", x.keep(), 1);
        Due.due("count(5)", x.count(5), 1);
    }

    public static void main(String[] args) {
        days();
        letters();
        ifs();
        sentAgain();
        fates();
        takenBack();
        images();
        Due.close();
    }
}
