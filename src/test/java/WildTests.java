import java.util.Random;

/** Wild arguments in all states: no call may throw but look(), by itself only what it is told to. */
public final class WildTests {
    private static final Random DICE = new Random(3);
    private static final int[] EDGES = {Integer.MIN_VALUE, Integer.MAX_VALUE, -2, -1, 0, 1, 2, 3, 4, 5, 6, 8, 15, 16, 24, 25, 59,
        60, 63, 64, 700, 999, 1000, 4095, 4096, 65535};

    private static int any() {
        switch (DICE.nextInt(4)) {
            case 0: return DICE.nextInt();
            case 1: return EDGES[DICE.nextInt(EDGES.length)];
            default: return DICE.nextInt(4);
        }
    }

    private static long call(PostStones x, int which) {
        switch (which) {
            case 0: return x.feed(any(), any(), any(), any(), any());
            case 1: return x.text(any());
            case 2: return x.fault(any());
            case 3: return x.named(any());
            case 4: return Due.look(x, any(), any());
            case 5: return x.day(any()) ? 1 : 0;
            case 6: return x.letter(any(), any(), any(), any());
            case 7: return x.when(any(), any(), any());
            case 8: return x.resent(any(), any(), any());
            case 9: return x.post(any(), any());
            case 10: return x.whence(any(), any(), any());
            case 11: return x.plies(any());
            case 12: return x.row(any(), any());
            case 13: return x.by(any(), any());
            case 14: return x.at(any(), any());
            case 15: return x.turn(any());
            case 16: return x.end(any());
            case 17: return x.moves(any());
            case 18: return x.move(any(), any());
            case 19: return x.law(any(), any());
            case 20: return x.sure(any(), any(), any(), any());
            case 21: return x.games(any(), any());
            case 22: return x.safe(any(), any(), any(), any());
            case 23: return x.reply(any(), any(), any(), any());
            case 24: return x.refuted(any(), any(), any());
            case 25: return x.fewest(any());
            case 26: return x.clock(any(), any());
            case 27: return x.log(any(), any());
            case 28: return x.forged();
            case 29: return x.lot(any(), any(), any());
            case 30: return x.undo();
            case 31: return x.keep();
            case 32: return x.back();
            default: return x.count(any());
        }
    }

    public static void main(String[] args) {
        String[] texts = {"", LetterTests.GAME, "board 5 5;kind q runs 1 0 -1 0 0 1 0 -1 1 1 -1 -1 1 -1 -1 1 king;"
            + "stone q 0 0 0;stone q 0 2 0;stone q 0 4 1;stone q 0 1 1;stone q 1 0 4;stone q 1 2 4;stone q 1 4 3;stone q 1 1 3;law ply / row;"};
        for (int run = 0; run < 300; run++) {
            PostStones x = new PostStones();
            Due.tell(x, texts[run % texts.length]);
            for (int i = 0; i < 480; i++) {
                int which = DICE.nextInt(34);
                try {
                    call(x, which);
                    Due.due("a call", 0, 0);
                } catch (RuntimeException e) {
                    Due.due("call " + which + " threw " + e, 1, 0);
                }
            }
        }
        Due.close();
    }
}
