/** Calls that only ask: with none such they answer so, and whatever they answer, all stays as it was. */
final class QuietBounds {
    private static final String TEXT = "board 4 4;kind k leaps 1 0 0 1 -1 0 0 -1 king;kind r runs 1 0 0 1 -1 0 0 -1;stone k 0 0 0;stone r 0 1 0;"
        + "stone r 0 0 1;stone k 1 3 3;stone r 1 2 3;law not (takes and king) or ply > 1 / (3 - ply);post 1 3;days 7;late;";

    private QuietBounds() { }

    private static int move(int from, int to) {
        return 64 * from + to;
    }

    /** Letters of both, one sent again, LOGS, an IMAGE of fewer letters, a DAY on which each VIEW knows others. */
    private static Game some() {
        Game x = Game.told(TEXT);
        x.letter(0, 1, 4, -1);
        x.when(0, -1, move(1, 2));
        x.when(2, move(14, 13), move(2, 6));
        x.keep();
        x.letter(1, 5, 8, 0);
        x.when(1, -1, move(14, 13));
        x.resent(0, 6, 9);
        x.letter(1, 9, 10, 2);
        x.when(3, -1, move(13, 12));
        x.log(1, 7);
        x.log(3, 20);
        x.day(6);
        return x;
    }

    private static void none(int promise, String words, String call, Bounds.Act act, long answer) {
        Bounds.promise(promise, words);
        Bounds.refused(call, QuietBounds::some, act, answer);
    }

    private static void refused() {
        none(3, "-2, and the TAPE stays: there are not so many, n is below 0.", "text(1)", x -> x.text(1), -2);
        none(4, "NONE for another what.", "fault(2)", x -> x.fault(2), Bounds.NONE);
        none(5, "NONE: there is none such.", "named(1)", x -> x.named(1), Bounds.NONE);
        none(6, "IndexOutOfBoundsException: no such KIND.", "look(2, 0)", x -> x.look(2, 0), -100);
        none(6, "NoSuchElementException: no such what.", "look(1, 3)", x -> x.look(1, 3), -200);
        none(11, "Integer.MIN_VALUE: no such ones.", "post(4, 0)", x -> x.post(4, 0), Bounds.MIN);
        none(11, "Integer.MIN_VALUE: no such ones.", "post(0, 7)", x -> x.post(0, 7), Bounds.MIN);
        none(12, "NONE: no such ones.", "whence(2, 2, 0)", x -> x.whence(2, 2, 0), Bounds.NONE);
        none(13, "NONE: no such VIEW.", "plies(4)", x -> x.plies(4), Bounds.NONE);
        none(14, "NONE: no such ones.", "row(0, 4)", x -> x.row(0, 4), Bounds.NONE);
        none(15, "NONE: no such ones.", "by(0, 4)", x -> x.by(0, 4), Bounds.NONE);
        none(16, "NONE: no such ones.", "at(0, 16)", x -> x.at(0, 16), Bounds.NONE);
        none(17, "NONE: no such VIEW.", "turn(4)", x -> x.turn(4), Bounds.NONE);
        none(18, "NONE: no such VIEW.", "end(-1)", x -> x.end(-1), Bounds.NONE);
        none(19, "NONE: no such VIEW.", "moves(4)", x -> x.moves(4), Bounds.NONE);
        none(20, "NONE: no such ones.", "move(0, 99)", x -> x.move(0, 99), Bounds.NONE);
        none(21, "Long.MIN_VALUE: an ERROR, no law, no such ones.", "law(4, 1)", x -> x.law(4, 1), Bounds.ERROR);
        none(22, "NONE: no such ones.", "sure(0, 2, 1, 0)", x -> x.sure(0, 2, 1, 0), Bounds.NONE);
        none(23, "NONE: no such ones.", "games(0, 4)", x -> x.games(0, 4), Bounds.NONE);
        none(24, "NONE: no such ones.", "safe(0, 0, 3, 0)", x -> x.safe(0, 0, 3, 0), Bounds.NONE);
        none(25, "NONE: no such ones, an END.", "reply(0, 0, 2, 1)", x -> x.reply(0, 0, 2, 1), Bounds.NONE);
        none(26, "NONE: no such ones.", "refuted(0, 1, 3)", x -> x.refuted(0, 1, 3), Bounds.NONE);
        none(27, "NONE: no such VIEW.", "fewest(4)", x -> x.fewest(4), Bounds.NONE);
        none(28, "NONE: no such ones.", "clock(2, 0)", x -> x.clock(2, 0), Bounds.NONE);
        none(31, "NONE: no such ones.", "lot(0, 0, 21)", x -> x.lot(0, 0, 21), Bounds.NONE);
        none(35, "NONE for another what.", "count(9)", x -> x.count(9), Bounds.NONE);
    }

    private static void asked(int promise, String words, Bounds.Act act) {
        Bounds.promise(promise, words);
        Game asked = some();
        for (int view = 0; view < 4; view++) {
            asked.plies(view);
        }
        long first = act.on(asked);
        Bounds.due("the same call once more", act.on(asked), first);
        Bounds.same("a call that is answered, and all behind it", asked, some());
    }

    private static void answered() {
        asked(12, "An IF of a letter in VIEW 0,", x -> x.whence(0, 1, 0) + 10 * x.whence(2, 1, 1));
        asked(21, "The law's E of a MOVE of a stone of whoever is to move,", x -> x.law(0, move(2, 3)) + x.law(2, move(0, 1)));
        asked(22, "SURE, what 0: in how many, 1: of how many (0 at an END).",
            x -> x.sure(0, 1, move(13, 12), 0) + x.sure(1, 0, move(2, 6), 0) + x.sure(2, 0, move(2, 6), 0) + x.sure(3, 1, move(14, 13), 0));
        for (int n = 0; n <= 3; n++) {
            int moves = n;
            asked(23, "GAMES (n 0 .. 3);", x -> x.games(0, moves) + x.games(1, moves) + x.games(2, moves) + x.games(3, moves));
        }
        for (int n = 0; n <= 2; n++) {
            int most = n;
            asked(24, "SAFE letter (n 0 .. 2), what 0: how many IFS it takes (1, if they are to move), 1: whether 6 do (1, 0).",
                x -> x.safe(0, 0, most, 0) + 100 * x.safe(0, 1, most, 0) + 10000 * x.safe(1, 0, most, 1));
            asked(25, "The MOVE of a SAFE letter (if they aren't to move: behind the other's k-th LAWFUL MOVE; else k 0);",
                x -> x.reply(0, 0, most, 0) + 10000L * x.reply(0, 1, most, 1));
            asked(26, "REFUTED: the other's MOVE;", x -> x.refuted(0, 0, most) + 10000L * x.refuted(1, 0, most));
        }
        asked(27, "FEWEST: 1 or 2 letters;", x -> x.fewest(0) + 10 * x.fewest(1));
        asked(28, "CLOCK of a player, what 0: days, 1: whether it is OVERSTEPPED.", x -> x.clock(0, 0) + 10 * x.clock(1, 1));
        asked(30, "FORGED (bits); 0: all are true.", x -> x.forged());
        asked(31, "LOT of 1 .. 20 draws: how many;", x -> x.lot(1, 5, 20) + 100 * x.lot(2, 6, 20) + 10000 * x.lot(3, 7, 20));
    }

    static void all() {
        refused();
        answered();
    }
}
