/** A PostStones that counts its calls: behind the 512th nothing is promised, so no test may go there. */
final class Game {
    static final int MOST_CALLS = 512;

    private final PostStones stones = new PostStones();
    private int calls = 0;

    private PostStones next() {
        calls++;
        if (calls > MOST_CALLS) {
            Bounds.due("a test's calls of one object", calls, MOST_CALLS);
        }
        return stones;
    }

    static Game told(String text) {
        Game x = new Game();
        int lines = x.tell(text);
        if (lines < 0) {
            Bounds.due("text of '" + text + "', fault " + x.fault(0) + " at " + x.fault(1), lines, 0);
        }
        return x;
    }

    /** Feeds a text and has it read; what text() answers. */
    int tell(String text) {
        put(text);
        return text(text.length());
    }

    /** Feeds a text, with blanks behind it up to twenty bytes a call; what the last feed() answers. */
    int put(String text) {
        int fed = 0;
        for (int from = 0; from < text.length(); from += 20) {
            int[] five = Due.five(text, from);
            fed = feed(five[0], five[1], five[2], five[3], five[4]);
        }
        return fed;
    }

    int feed(int a, int b, int c, int d, int e) { return next().feed(a, b, c, d, e); }
    int text(int n) { return next().text(n); }
    int fault(int what) { return next().fault(what); }
    int named(int letters) { return next().named(letters); }
    int look(int kind, int what) { return Due.look(next(), kind, what); }
    int day(int day) { return next().day(day) ? 1 : 0; }
    int letter(int player, int mark, int arrival, int answers) { return next().letter(player, mark, arrival, answers); }
    int when(int ply, int ahead, int move) { return next().when(ply, ahead, move); }
    int resent(int letter, int mark, int arrival) { return next().resent(letter, mark, arrival); }
    int post(int letter, int what) { return next().post(letter, what); }
    int whence(int letter, int which, int what) { return next().whence(letter, which, what); }
    int plies(int view) { return next().plies(view); }
    int row(int view, int k) { return next().row(view, k); }
    int by(int view, int k) { return next().by(view, k); }
    int at(int view, int point) { return next().at(view, point); }
    int turn(int view) { return next().turn(view); }
    int end(int view) { return next().end(view); }
    int moves(int view) { return next().moves(view); }
    int move(int view, int k) { return next().move(view, k); }
    long law(int view, int move) { return next().law(view, move); }
    int sure(int view, int player, int move, int what) { return next().sure(view, player, move, what); }
    int games(int view, int n) { return next().games(view, n); }
    int safe(int view, int player, int n, int what) { return next().safe(view, player, n, what); }
    int reply(int view, int player, int n, int k) { return next().reply(view, player, n, k); }
    int refuted(int view, int player, int n) { return next().refuted(view, player, n); }
    int fewest(int view) { return next().fewest(view); }
    int clock(int player, int what) { return next().clock(player, what); }
    int log(int letter, int day) { return next().log(letter, day); }
    int forged() { return next().forged(); }
    int lot(int view, int seed, int draws) { return next().lot(view, seed, draws); }
    int undo() { return next().undo(); }
    int keep() { return next().keep(); }
    int back() { return next().back(); }
    int count(int what) { return next().count(what); }
}
