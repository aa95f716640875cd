/** The bounds of letters and their rows: part 3 of the terms, promises 7 to 12, 29 and 32 to 35. */
final class LetterBounds {
    private static final String TEXT = "board 3 3;kind k leaps 1 0 0 1 -1 0 0 -1;stone k 0 0 0;stone k 1 2 2;post 2 4;days 10;";

    /** Four MOVES that can follow one another, and one of each player that leads aside. */
    private static final int[] ROW = {1, 64 * 8 + 5, 64 + 4, 64 * 5 + 2};
    private static final int ASIDE = 3;
    private static final int OTHERS_ASIDE = 64 * 8 + 7;
    private static final int UNLAWFUL = 64 * 4 + 5;

    private LetterBounds() { }

    private static void terms(String words) {
        Bounds.sentence(Bounds.TERMS, words);
    }

    /** Two letters with IFS, an IMAGE, two LOGS, a DAY. */
    private static Game some() {
        Game x = Game.told(TEXT);
        x.letter(0, 1, 4, -1);
        x.when(0, -1, ROW[0]);
        x.when(2, ROW[1], ROW[2]);
        x.log(0, 2);
        x.keep();
        x.letter(1, 5, 8, 0);
        x.when(1, ROW[0], ROW[1]);
        x.log(1, 7);
        x.day(6);
        return x;
    }

    private static Game sixteen() {
        Game x = Game.told(TEXT);
        for (int i = 0; i < 16; i++) {
            Bounds.due("letter " + i, i % 3 == 2 ? x.resent(i - 1, i, i) : x.letter(i % 2, i, i + 3, -1), i);
        }
        return x;
    }

    private static void heap() {
        terms("LETTERS, at most 16, numbered as they come: by a player, MARK (the day of the postmark), ARRIVAL, "
            + "one of the other's that it answers (or none), up to 6 IFS: a PLY, the MOVE right ahead of it (or none: whatever it was), a MOVE.");
        Bounds.due("count(5)", sixteen().count(5), 16);
        Bounds.due("letter 16", sixteen().letter(0, 1, 1, -1), Bounds.NONE);
        Bounds.due("resent 16", sixteen().resent(0, 1, 1), Bounds.NONE);
        Bounds.due("post(15, 1)", sixteen().post(15, 1), 15);
        Game x = Game.told(TEXT);
        x.letter(0, 1, 1, -1);
        for (int many = 1; many <= 6; many++) {
            Bounds.due("when() " + many, x.when(2 * many, -1, many), many);
        }
        Bounds.due("when() 7", x.when(0, -1, 1), Bounds.NONE);
        // the MOVE right ahead, not one further back
        for (int ahead = 0; ahead < 4; ahead++) {
            Game y = some();
            y.letter(1, 9, 9, -1);
            y.when(3, ahead < 3 ? ROW[ahead] : -1, ROW[3]);
            Bounds.due("plies(0) with the MOVE " + ahead + " ahead", y.plies(0), ahead >= 2 ? 4 : 3);
        }
    }

    private static void sentAgain() {
        terms("A RESENT one has the IFS of another one by the same and answers what that one does (one RESENT of a RESENT one likewise).");
        Game x = some();
        x.resent(1, 20, 22);
        x.resent(2, 30, 33);
        x.resent(3, 4, 5);
        for (int letter = 2; letter < 5; letter++) {
            Bounds.due("post(" + letter + ", 0)", x.post(letter, 0), 1);
            Bounds.due("post(" + letter + ", 3)", x.post(letter, 3), 0);
            Bounds.due("post(" + letter + ", 4)", x.post(letter, 4), 1);
            Bounds.due("post(" + letter + ", 5)", x.post(letter, 5), letter - 1);
        }
        Bounds.due("by(0, 1): the earliest mark", x.by(0, 1), 4);
        Bounds.due("whence(1, 0, 1)", x.whence(1, 0, 1), 2);
        Bounds.due("whence(4, 0, 0)", x.whence(4, 0, 0), 1);
        Bounds.due("resent(0) answers none", x.resent(0, 1, 1), 5);
        Bounds.due("post(5, 3)", x.post(5, 3), Bounds.NONE);
        Bounds.due("post(5, 4)", x.post(5, 4), 2);
    }

    private static void rows() {
        terms("A ROW of some letters: from the first board on, at each PLY, as long as it is no END: of whoever is to move those IFS "
            + "of that PLY whose MOVE ahead is the one that was made (or none),");
        Bounds.due("plies(0)", some().plies(0), 3);
        Game gap = Game.told(TEXT);
        gap.letter(0, 1, 1, -1);
        gap.when(0, -1, ROW[0]);
        gap.when(2, -1, ROW[2]);
        Bounds.due("plies(0): PLY 1 isn't told", gap.plies(0), 1);
        Game first = Game.told(TEXT);
        first.letter(0, 1, 1, -1);
        first.when(0, 0, ROW[0]);
        Bounds.due("plies(0): no MOVE is ahead of the first, not 0 either", first.plies(0), 0);
        first.when(0, ROW[0], ROW[0]);
        Bounds.due("plies(0): nor its own", first.plies(0), 0);
        first.when(0, -1, ROW[0]);
        Bounds.due("plies(0): whatever it was", first.plies(0), 1);
        Game end = Game.told("kind k leaps 1 0;stone k 0 0 0;stone k 0 0 1;stone k 1 2 2;");
        end.letter(0, 1, 1, -1);
        end.when(0, -1, 1);
        end.when(2, -1, 64 + 2);
        Bounds.due("plies(0): player 1 has no MOVE, it is an END", end.plies(0), 1);
        Bounds.due("whence(0, 1, 0)", end.whence(0, 1, 0), 0);
        Game zero = Game.told("kind k leaps 1 0 -1 0;stone k 0 1 0;stone k 1 1 2;");
        zero.letter(0, 1, 1, -1);
        zero.when(0, -1, 64);
        zero.letter(1, 1, 1, -1);
        zero.when(1, 64, 64 * 7 + 8);
        Bounds.due("plies(0): a MOVE ahead that is as written", zero.plies(0), 2);
    }

    /** Letters of player 0 with these marks, of which each tells first what isn't lawful, then a MOVE of its own. */
    private static Game rivals(boolean late, int... marks) {
        Game x = Game.told("board 5 5;kind q leaps 0 1 1 0 1 1 2 0 0 2 2 2 3 0 0 3;stone q 0 0 0;stone q 1 4 4;" + (late ? "late;" : ""));
        int[] moves = {5, 1, 6, 2, 10, 12, 3, 15};
        for (int i = 0; i < marks.length; i++) {
            x.letter(0, marks[i], 50, -1);
            x.when(0, -1, UNLAWFUL);
            x.when(0, -1, moves[i]);
            x.when(0, -1, moves[7 - i]);
        }
        return x;
    }

    private static void order() {
        terms("in order: by MARKS of the letters (late: the latest first), then by numbers (late: the greatest first), then as they stand in it;");
        int[] moves = {5, 1, 6, 2};
        int[][] marks = {{5, 6, 7}, {7, 6, 5}, {6, 5, 7}, {5, 5, 5}, {6, 5, 5}, {5, 6, 6}, {0, 999, 0}, {999, 0, 999}};
        int[] earliest = {0, 2, 1, 0, 1, 0, 0, 1};
        int[] latest = {2, 0, 2, 2, 0, 2, 1, 2};
        for (int i = 0; i < marks.length; i++) {
            for (int late = 0; late < 2; late++) {
                int due = late == 1 ? latest[i] : earliest[i];
                Game x = rivals(late == 1, marks[i]);
                Bounds.due("by(0, 0) of case " + i + ", late " + late, x.by(0, 0), due);
                Bounds.due("row(0, 0) of case " + i + ", late " + late, x.row(0, 0), moves[due]);
            }
        }
        for (int late = 0; late < 2; late++) {
            Game x = rivals(late == 1, 5);
            Bounds.due("row(0, 0) of one letter, late " + late, x.row(0, 0), 5);
            x.resent(0, 4, 50);
            Bounds.due("by(0, 0) with one sent again marked ahead, late " + late, x.by(0, 0), 1 - late);
            x.resent(0, 6, 50);
            Bounds.due("by(0, 0) with one sent again marked behind, late " + late, x.by(0, 0), late == 1 ? 2 : 1);
        }
    }

    private static void fates() {
        terms("the first of them whose MOVE is LAWFUL is PLAYED; those ahead of it are VOID 3 (not lawful); without one the ROW ends there.");
        for (int late = 0; late < 2; late++) {
            Game x = rivals(late == 1, 5, 6);
            int first = late;
            Bounds.due("whence() of the first", x.whence(first, 0, 1), 3);
            Bounds.due("whence() of the one PLAYED", x.whence(first, 1, 0), 1);
            Bounds.due("whence() of the one PLAYED, why", x.whence(first, 1, 1), 0);
            Bounds.due("whence() behind it, what isn't lawful, too", x.whence(1 - first, 0, 1), 2);
        }
        Game none = Game.told(TEXT);
        none.letter(0, 1, 1, -1);
        none.when(0, -1, UNLAWFUL);
        none.when(0, -1, OTHERS_ASIDE);
        Bounds.due("plies(0) without a lawful one", none.plies(0), 0);
        Bounds.due("whence() without a lawful one: its PLY isn't made", none.whence(0, 0, 0), 0);
        Bounds.due("whence() without a lawful one, why", none.whence(0, 0, 1), 0);
        none.when(0, -1, ASIDE);
        Bounds.due("whence() with one behind it", none.whence(0, 0, 1), 3);
        Bounds.due("whence() of the other's stone", none.whence(0, 1, 1), 3);
        terms("IFS of a PLY made by another one are VOID: 1 its MOVE ahead was another, 2 another one counted ahead of it.");
        Game x = Game.told(TEXT);
        x.letter(0, 1, 1, -1);
        x.when(0, -1, ROW[0]);
        x.letter(1, 2, 2, 0);
        x.when(1, ASIDE, ROW[1]);
        x.when(1, ASIDE, UNLAWFUL);
        x.when(1, ROW[0], ROW[1]);
        x.when(1, ASIDE, ROW[1]);
        x.when(1, -1, ROW[1]);
        x.when(1, ROW[0], UNLAWFUL);
        int[] why = {1, 1, 0, 1, 2, 2};
        for (int which = 0; which < 6; which++) {
            Bounds.due("whence(1, " + which + ", 0)", x.whence(1, which, 0), which == 2 ? 1 : -2);
            Bounds.due("whence(1, " + which + ", 1)", x.whence(1, which, 1), why[which]);
        }
    }

    private static void views() {
        terms("VIEWS on a DAY: 0 the umpire's: all letters, whenever; 1, 2: what player 0, 1 knows: his own with a MARK by that day, "
            + "the other's that ARRIVED by then; 3: what both know: those of both that ARRIVED by then.");
        int[][] days = {{20, 25}, {25, 20}, {0, 0}, {0, 999}, {999, 999}, {7, 7}, {999, 0}};
        for (int[] d : days) {
            for (int day : new int[] {d[0] - 1, d[0], d[0] + 1, d[1] - 1, d[1], d[1] + 1}) {
                if (day >= 0 && day <= 999) {
                    viewsOf(d[0], d[1], day);
                }
            }
        }
    }

    /** Of each player's letter with this MARK and this ARRIVAL: who knows it on a day. */
    private static void viewsOf(int mark, int arrival, int day) {
        String at = " with marks " + mark + ", " + arrival + " on day " + day;
        Game x = Game.told(TEXT);
        x.letter(0, mark, arrival, -1);
        x.when(0, -1, ROW[0]);
        x.day(day);
        Game y = Game.told(TEXT);
        y.letter(0, 0, 0, -1);
        y.when(0, -1, ROW[0]);
        y.letter(1, mark, arrival, 0);
        y.when(1, -1, ROW[1]);
        y.day(day);
        int written = day >= mark ? 1 : 0;
        int there = day >= arrival ? 1 : 0;
        int[] first = {1, written, there, there};
        int[] second = {2, 1 + there, 1 + written, 1 + there};
        for (int view = 0; view < 4; view++) {
            Bounds.due("plies(" + view + ") of player 0's" + at, x.plies(view), first[view]);
            Bounds.due("plies(" + view + ") of player 1's" + at, y.plies(view), second[view]);
        }
        Bounds.due("whence() is the umpire's" + at, y.whence(1, 0, 0), 1);
    }

    private static void lateness() {
        terms("LATENESS of a letter: ARRIVAL less MARK.");
        int[][] days = {{3, 7, 4}, {7, 3, -4}, {5, 5, 0}, {0, 999, 999}, {999, 0, -999}};
        for (int[] d : days) {
            Game x = Game.told(TEXT);
            x.letter(0, d[0], d[1], -1);
            Bounds.due("post(0, 6) of " + d[0] + ", " + d[1], x.post(0, 6), d[2]);
        }
    }

    private static void day() {
        Bounds.promise(7, "It is a DAY (0 .. 999): true;");
        for (int day : new int[] {0, 1, 998, 999}) {
            Game x = some();
            Bounds.due("day(" + day + ")", x.day(day), 1);
            Bounds.due("count(7)", x.count(7), day);
        }
        Bounds.promise(7, "false: no such one.");
        for (int day : new int[] {-1, 1000, Bounds.MIN, Bounds.MAX}) {
            Bounds.refused("day(" + day + ")", LetterBounds::some, g -> g.day(day), 0);
        }
    }

    private static void letter() {
        Bounds.promise(8, "A letter comes (MARK, ARRIVAL 0 .. 999; answers NONE: none): its number;");
        int[][] good = {{0, 0, 0, -1}, {1, 999, 999, -1}, {0, 0, 999, 1}, {1, 999, 0, 0}};
        for (int[] g : good) {
            Game x = some();
            Bounds.due("letter()", x.letter(g[0], g[1], g[2], g[3]), 2);
            for (int what = 0; what < 4; what++) {
                Bounds.due("post(2, " + what + ")", x.post(2, what), g[what]);
            }
            Bounds.due("post(2, 4)", x.post(2, 4), 0);
            Bounds.due("post(2, 5)", x.post(2, 5), Bounds.NONE);
            Bounds.due("count(5)", x.count(5), 3);
        }
        Bounds.promise(8, "NONE: no such ones (one that is answered is the other's), or there are 16.");
        int[][] wrong = {{-1, 1, 1, -1}, {2, 1, 1, -1}, {Bounds.MAX, 1, 1, -1}, {0, -1, 1, -1}, {0, 1000, 1, -1}, {0, Bounds.MIN, 1, -1},
            {0, 1, -1, -1}, {0, 1, 1000, -1}, {0, 1, Bounds.MAX, -1}, {0, 1, 1, 2}, {1, 1, 1, 2}, {0, 1, 1, -2}, {0, 1, 1, 16},
            {0, 1, 1, Bounds.MIN}, {0, 1, 1, Bounds.MAX}, {0, 1, 1, 0}, {1, 1, 1, 1}};
        for (int[] w : wrong) {
            Bounds.refused("letter(" + w[0] + ", " + w[1] + ", " + w[2] + ", " + w[3] + ")", LetterBounds::some,
                g -> g.letter(w[0], w[1], w[2], w[3]), Bounds.NONE);
        }
        Bounds.refused("letter() of 16", LetterBounds::sixteen, g -> g.letter(0, 1, 1, -1), Bounds.NONE);
        Bounds.refused("letter() of 16 that answers", LetterBounds::sixteen, g -> g.letter(0, 1, 1, 1), Bounds.NONE);
        Bounds.due("letter(0, 1, 1, 0) without letters", new Game().letter(0, 1, 1, 0), Bounds.NONE);
        Game again = some();
        again.resent(0, 9, 9);
        Bounds.due("letter() that answers one's own sent again", again.letter(0, 9, 9, 2), Bounds.NONE);
        Bounds.due("letter() that answers the other's sent again", again.letter(1, 9, 9, 2), 3);
        Game sixteen = sixteen();
        sixteen.undo();
        Bounds.due("letter() of 15", sixteen.letter(0, 1, 1, -1), 15);
    }

    private static Game withLetter(int player) {
        Game x = some();
        x.letter(player, 9, 9, -1);
        return x;
    }

    private static Game withIfs(int many) {
        Game x = withLetter(0);
        for (int i = 0; i < many; i++) {
            x.when(0, -1, 1);
        }
        return x;
    }

    private static Game withResent() {
        Game x = some();
        x.resent(0, 9, 12);
        return x;
    }

    private static void when() {
        Bounds.promise(9, "An IF comes to the last letter (PLY 0 .. 59, of that player; MOVES 0 .. 4095, ahead NONE: none): how many it has;");
        int[][] good = {{0, -1, 0}, {0, 0, 4095}, {58, 4095, 0}, {2, 4095, 4095}};
        for (int[] w : good) {
            Bounds.due("when() of player 0", withLetter(0).when(w[0], w[1], w[2]), 1);
            Bounds.due("when() of player 1", withLetter(1).when(w[0] + 1, w[1], w[2]), 1);
        }
        Game two = some();
        Bounds.due("when() of letter 1", two.when(3, -1, ROW[3]), 2);
        Bounds.due("post(0, 4): not to another one", two.post(0, 4), 2);
        Bounds.due("post(1, 4)", two.post(1, 4), 2);
        Bounds.due("plies(0)", two.plies(0), 4);
        Bounds.due("when() the sixth", withIfs(5).when(0, -1, 1), 6);
        Bounds.promise(9, "NONE: no letter, it is a RESENT one, it has 6, no such ones.");
        Bounds.refused("when() without a letter", () -> Game.told(TEXT), g -> g.when(0, -1, 1), Bounds.NONE);
        Bounds.refused("when() of one sent again", LetterBounds::withResent, g -> g.when(0, -1, 1), Bounds.NONE);
        Bounds.refused("when() the seventh", () -> withIfs(6), g -> g.when(0, -1, 1), Bounds.NONE);
        int[][] wrong = {{-1, -1, 1}, {-2, -1, 1}, {60, -1, 1}, {62, -1, 1}, {1, -1, 1}, {59, -1, 1}, {Bounds.MIN, -1, 1}, {Bounds.MAX - 1, -1, 1},
            {0, -2, 1}, {0, 4096, 1}, {0, Bounds.MIN, 1}, {0, Bounds.MAX, 1}, {0, -1, -1}, {0, -1, 4096}, {0, -1, Bounds.MIN}, {0, -1, Bounds.MAX}};
        for (int[] w : wrong) {
            Bounds.refused("when(" + w[0] + ", " + w[1] + ", " + w[2] + ")", () -> withLetter(0), g -> g.when(w[0], w[1], w[2]), Bounds.NONE);
        }
        for (int ply : new int[] {-1, 0, 58, 60, 61, Bounds.MAX}) {
            Bounds.refused("when() of player 1 at " + ply, () -> withLetter(1), g -> g.when(ply, -1, 1), Bounds.NONE);
        }
    }

    private static void resent() {
        Bounds.promise(10, "A RESENT letter comes: its number;");
        Game x = some();
        Bounds.due("resent(1, 0, 999)", x.resent(1, 0, 999), 2);
        Bounds.due("resent(0, 999, 0)", x.resent(0, 999, 0), 3);
        Bounds.due("post(2, 1)", x.post(2, 1), 0);
        Bounds.due("post(2, 2)", x.post(2, 2), 999);
        Bounds.due("post(2, 5)", x.post(2, 5), 1);
        Bounds.due("post(3, 0)", x.post(3, 0), 0);
        Bounds.due("count(5)", x.count(5), 4);
        Bounds.promise(10, "NONE: no such letter, no such days, or there are 16.");
        int[][] wrong = {{-1, 1, 1}, {2, 1, 1}, {16, 1, 1}, {Bounds.MIN, 1, 1}, {Bounds.MAX, 1, 1}, {0, -1, 1}, {0, 1000, 1}, {0, 1, -1},
            {0, 1, 1000}, {0, Bounds.MIN, 1}, {0, 1, Bounds.MAX}};
        for (int[] w : wrong) {
            Bounds.refused("resent(" + w[0] + ", " + w[1] + ", " + w[2] + ")", LetterBounds::some, g -> g.resent(w[0], w[1], w[2]), Bounds.NONE);
        }
        Bounds.refused("resent() of 16", LetterBounds::sixteen, g -> g.resent(15, 1, 1), Bounds.NONE);
        Bounds.refused("resent() without letters", () -> Game.told(TEXT), g -> g.resent(0, 1, 1), Bounds.NONE);
    }

    private static void post() {
        Bounds.promise(11, "Of a letter, what 0 player, 1 MARK, 2 ARRIVAL, 3 which it answers (NONE), 4 how many IFS, 5 of which it is RESENT (NONE), "
            + "6 LATENESS (below 0, too).");
        Game x = some();
        x.resent(1, 9, 2);
        int[][] due = {{0, 1, 4, -1, 2, -1, 3}, {1, 5, 8, 0, 1, -1, 3}, {1, 9, 2, 0, 1, 1, -7}};
        for (int letter = 0; letter < due.length; letter++) {
            for (int what = 0; what < 7; what++) {
                Bounds.due("post(" + letter + ", " + what + ")", x.post(letter, what), due[letter][what]);
            }
        }
        Bounds.promise(11, "Integer.MIN_VALUE: no such ones.");
        for (int wrong : new int[] {-1, 3, 16, Bounds.MIN, Bounds.MAX}) {
            Bounds.due("post(" + wrong + ", 0)", x.post(wrong, 0), Bounds.MIN);
        }
        for (int wrong : new int[] {-1, 7, Bounds.MIN, Bounds.MAX}) {
            Bounds.due("post(0, " + wrong + ")", x.post(0, wrong), Bounds.MIN);
        }
        Bounds.due("post(0, 0) without letters", new Game().post(0, 0), Bounds.MIN);
        Bounds.due("post(16, 0) of 16", sixteen().post(16, 0), Bounds.MIN);
    }

    private static void whence() {
        Bounds.promise(12, "An IF of a letter in VIEW 0, what 0: 1 PLAYED, 0 its PLY isn't made, -2 VOID; 1: why it is VOID (1, 2, 3; 0).");
        Game x = some();
        x.when(1, ASIDE, ROW[1]);
        x.when(3, -1, UNLAWFUL);
        x.when(59, -1, UNLAWFUL);
        x.day(0);
        int[][] due = {{1, 0}, {-2, 1}, {0, 0}, {0, 0}};
        for (int which = 0; which < 4; which++) {
            for (int what = 0; what < 2; what++) {
                Bounds.due("whence(1, " + which + ", " + what + ")", x.whence(1, which, what), due[which][what]);
            }
        }
        Bounds.promise(12, "NONE: no such ones.");
        for (int wrong : new int[] {-1, 2, 16, Bounds.MIN, Bounds.MAX}) {
            Bounds.due("whence(" + wrong + ", 0, 0)", x.whence(wrong, 0, 0), Bounds.NONE);
            Bounds.due("whence(0, 0, " + wrong + ")", x.whence(0, 0, wrong), Bounds.NONE);
            Bounds.due("whence(0, " + wrong + ", 0)", x.whence(0, wrong, 0), Bounds.NONE);
            Bounds.due("whence(0, " + wrong + ", 1)", x.whence(0, wrong, 1), Bounds.NONE);
        }
        Bounds.due("whence(1, 4, 0)", x.whence(1, 4, 0), Bounds.NONE);
        Game again = withResent();
        Bounds.due("whence(2, 1, 1) of one sent again", again.whence(2, 1, 1), 2);
        Bounds.due("whence(2, 2, 0) of one sent again", again.whence(2, 2, 0), Bounds.NONE);
        Bounds.due("whence(0, 0, 0) without IFS", withLetter(0).whence(2, 0, 0), Bounds.NONE);
        Bounds.due("whence(2, 5, 0) of 6", withIfs(6).whence(2, 5, 0), -2);
        Bounds.due("whence(2, 6, 0) of 6", withIfs(6).whence(2, 6, 0), Bounds.NONE);
    }

    private static Game twentyLogs() {
        Game x = some();
        for (int i = 3; i <= 20; i++) {
            Bounds.due("log " + i, x.log(i % 2, 7), i);
        }
        return x;
    }

    private static void log() {
        Bounds.promise(29, "A LOG (20 at most): a letter was seen on a day 0 .. 999: how many there are;");
        Game x = some();
        Bounds.due("log(0, 0)", x.log(0, 0), 3);
        Bounds.due("log(1, 999)", x.log(1, 999), 4);
        Bounds.due("count(6)", x.count(6), 4);
        Bounds.due("count(6) of 20", twentyLogs().count(6), 20);
        Bounds.promise(29, "NONE: no such ones, or there are 20.");
        int[][] wrong = {{-1, 1}, {2, 1}, {16, 1}, {Bounds.MIN, 1}, {Bounds.MAX, 1}, {0, -1}, {0, 1000}, {0, Bounds.MIN}, {0, Bounds.MAX}};
        for (int[] w : wrong) {
            Bounds.refused("log(" + w[0] + ", " + w[1] + ")", LetterBounds::some, g -> g.log(w[0], w[1]), Bounds.NONE);
        }
        Bounds.refused("log 21", LetterBounds::twentyLogs, g -> g.log(0, 1), Bounds.NONE);
        Bounds.refused("log(0, 1) without letters", () -> Game.told(TEXT), g -> g.log(0, 1), Bounds.NONE);
        Game y = twentyLogs();
        y.undo();
        y.undo();
        Bounds.due("log() where those of a letter were taken away", y.log(0, 1), 11);
    }

    private static void undo() {
        Bounds.promise(32, "The last letter is taken away (with its LOGS), or the last IF of it, if it has any: how many letters there are;");
        Game x = some();
        x.log(0, 3);
        Bounds.due("undo() of an IF", x.undo(), 2);
        Bounds.due("post(1, 4)", x.post(1, 4), 0);
        Bounds.due("post(0, 4)", x.post(0, 4), 2);
        Bounds.due("count(6): an IF has no LOGS", x.count(6), 3);
        Bounds.due("plies(0)", x.plies(0), 1);
        Bounds.due("undo() of a letter", x.undo(), 1);
        Bounds.due("count(6): its LOG went, the others not", x.count(6), 2);
        Bounds.due("undo() of the second IF", x.undo(), 1);
        Bounds.due("post(0, 4)", x.post(0, 4), 1);
        Bounds.due("whence(0, 0, 0)", x.whence(0, 0, 0), 1);
        Bounds.due("undo() of the first IF", x.undo(), 1);
        Bounds.due("plies(0)", x.plies(0), 0);
        Bounds.due("undo() of the last letter", x.undo(), 0);
        Bounds.due("count(6)", x.count(6), 0);
        Bounds.due("count(7): the DAY stays", x.count(7), 6);
        Bounds.due("back(): the IMAGE stays", x.back(), 1);
        Game logs = Game.told(TEXT);
        logs.letter(0, 1, 4, -1);
        logs.letter(1, 5, 8, 0);
        logs.log(0, 2);
        logs.log(1, 6);
        logs.log(0, 900);
        logs.log(1, 900);
        logs.log(0, 3);
        logs.undo();
        Bounds.due("count(6): the LOGS between others went", logs.count(6), 3);
        Bounds.due("forged(): the other letter's LOGS are as they were", logs.forged(), 1);
        logs.letter(1, 5, 8, 0);
        logs.letter(0, 1, 4, -1);
        Bounds.due("count(6): a new letter has no LOGS", logs.count(6), 3);
        Bounds.due("log(1, 6)", logs.log(1, 6), 4);
        int[][] seen = {{2, 900, 3, 0}, {900, 2, 3, 1}, {2, 3, 900, 1}, {2, 3, 4, 0}};
        for (int[] s : seen) {
            Game between = Game.told(TEXT);
            between.letter(0, 1, 4, -1);
            between.letter(1, 5, 8, 0);
            between.log(0, s[0]);
            between.log(1, s[1]);
            between.log(0, s[2]);
            between.undo();
            Bounds.due("forged(): by the days of the other letter's LOGS", between.forged(), s[3]);
        }
        Game six = withIfs(6);
        Bounds.due("undo() of the sixth IF", six.undo(), 3);
        Bounds.due("when() in place of it", six.when(0, -1, 1), 6);
        Game again = withResent();
        again.log(2, 9);
        Bounds.due("undo() of one sent again", again.undo(), 2);
        Bounds.same("undo() of one sent again", again, some());
        Bounds.promise(32, "NONE: there is none.");
        Bounds.refused("undo() without letters", () -> Game.told(TEXT), g -> g.undo(), Bounds.NONE);
        Bounds.refused("undo() where all went", LetterBounds::emptied, g -> g.undo(), Bounds.NONE);
    }

    private static Game emptied() {
        Game x = some();
        for (int i = 0; i < 5; i++) {
            x.undo();
        }
        Bounds.due("count(5)", x.count(5), 0);
        return x;
    }

    private static void images() {
        Bounds.promise(33, "An IMAGE is kept (in place of one ahead): how many letters there are.");
        Bounds.due("keep() of none", new Game().keep(), 0);
        Bounds.due("keep() of 16", sixteen().keep(), 16);
        Game x = some();
        Bounds.due("keep()", x.keep(), 2);
        emptyAll(x);
        Bounds.due("back(): the later IMAGE", x.back(), 2);
        Bounds.due("count(7)", x.count(7), 6);
        Game none = some();
        emptyAll(none);
        Bounds.due("keep() of none", none.keep(), 0);
        none.letter(0, 1, 1, -1);
        Bounds.due("back() to none", none.back(), 0);
        Bounds.promise(34, "All letters, LOGS, the DAY are as in the IMAGE: how many letters;");
        Game y = some();
        y.keep();
        y.undo();
        y.undo();
        y.undo();
        y.letter(0, 50, 60, -1);
        y.when(0, -1, ASIDE);
        y.log(0, 500);
        y.log(1, 600);
        y.day(700);
        Bounds.due("back()", y.back(), 2);
        Game kept = some();
        kept.keep();
        Bounds.same("back()", y, kept);
        Game logs = Game.told(TEXT);
        logs.letter(0, 1, 4, -1);
        logs.letter(1, 5, 8, 0);
        logs.log(0, 2);
        logs.log(1, 900);
        logs.keep();
        logs.undo();
        logs.undo();
        logs.letter(0, 1, 4, -1);
        logs.letter(0, 1, 4, -1);
        logs.log(0, 900);
        logs.log(0, 3);
        Bounds.due("forged()", logs.forged(), 1);
        Bounds.due("back()", logs.back(), 2);
        Bounds.due("forged(): by the LOGS of the IMAGE", logs.forged(), 2);
        Game twice = some();
        Bounds.due("back() to the first IMAGE", twice.back(), 1);
        Bounds.due("count(6)", twice.count(6), 1);
        Bounds.due("count(7)", twice.count(7), 0);
        twice.letter(1, 3, 3, 0);
        twice.when(1, -1, ROW[1]);
        Bounds.due("plies(0)", twice.plies(0), 3);
        Bounds.due("back() once more", twice.back(), 1);
        Bounds.due("plies(0) once more", twice.plies(0), 1);
        Game full = sixteen();
        full.keep();
        emptyAll(full);
        Bounds.due("back() to 16", full.back(), 16);
        Bounds.due("post(14, 5)", full.post(14, 5), 13);
        wholeImage();
        Bounds.promise(34, "NONE: there is none.");
        Bounds.refused("back() of a new one", Game::new, g -> g.back(), Bounds.NONE);
        Bounds.refused("back() with letters", LetterBounds::sixteen, g -> g.back(), Bounds.NONE);
        Game told = some();
        told.tell("late;");
        Bounds.due("back() behind a text", told.back(), Bounds.NONE);
    }

    /** Sixty IFS in ten letters and six sent again, kept, then taken away and written over by others. */
    private static void wholeImage() {
        int[] moves = new int[60];
        Game row = RuleBounds.sixty("", 60);
        for (int k = 0; k < 60; k++) {
            moves[k] = row.row(0, k);
        }
        Game x = RuleBounds.sixty("", 0);
        emptyAll(x);
        for (int letter = 0; letter < 10; letter++) {
            x.letter(letter % 2, letter, letter + 4, letter % 2 == 0 ? -1 : letter - 1);
            for (int i = 0; i < 6; i++) {
                int ply = letter / 2 * 12 + 2 * i + letter % 2;
                x.when(ply, ply == 0 ? -1 : moves[ply - 1], moves[ply]);
            }
        }
        for (int letter = 10; letter < 16; letter++) {
            x.resent(letter - 10, 900, 900 + letter);
        }
        for (int i = 0; i < 5; i++) {
            x.log(3 * i, 3 * i + 1);
        }
        x.day(321);
        Bounds.due("keep()", x.keep(), 16);
        for (int i = 0; i < 6 + 70; i++) {
            x.undo();
        }
        Bounds.due("count(5)", x.count(5), 0);
        for (int letter = 0; letter < 16; letter++) {
            x.letter(1 - letter % 2, 999, 0, -1);
            for (int i = 0; i < 6 && letter < 10; i++) {
                x.when(1 - letter % 2, 7, 4095);
            }
        }
        for (int i = 0; i < 7; i++) {
            x.log(15 - i, 500);
        }
        x.day(4);
        Bounds.due("back()", x.back(), 16);
        Bounds.due("count(6)", x.count(6), 5);
        Bounds.due("count(7)", x.count(7), 321);
        Bounds.due("plies(0)", x.plies(0), 60);
        for (int k = 0; k < 60; k++) {
            Bounds.due("row(0, " + k + ")", x.row(0, k), moves[k]);
        }
        for (int letter = 0; letter < 16; letter++) {
            int first = letter % 10;
            int[] due = {first % 2, letter < 10 ? letter : 900, letter < 10 ? letter + 4 : 900 + letter, first % 2 == 0 ? -1 : first - 1, 6,
                letter < 10 ? -1 : first};
            for (int what = 0; what < 6; what++) {
                Bounds.due("post(" + letter + ", " + what + ")", x.post(letter, what), due[what]);
            }
        }
        Bounds.due("whence(15, 5, 1)", x.whence(15, 5, 1), 2);
        Bounds.due("whence(9, 5, 0)", x.whence(9, 5, 0), 1);
    }

    private static void emptyAll(Game x) {
        for (int i = 0; i < 20; i++) {
            x.undo();
        }
        x.day(0);
    }

    private static void count() {
        Bounds.promise(35, "0 KINDS, 1 stones, 2 WIDE, 3 HIGH, 4 KNOTS, 5 letters, 6 LOGS, 7 the DAY, 8 days of the clock.");
        Game x = Game.told("board 4 5;kind a leaps 1 0;kind b leaps 1 0;kind c leaps 1 0;stone a 0 0 0;stone c 1 1 1;law 1 + 2 * 3;days 99;");
        x.letter(0, 1, 1, -1);
        x.letter(1, 1, 1, -1);
        x.letter(0, 1, 1, -1);
        x.when(0, -1, 1);
        x.resent(0, 1, 1);
        for (int i = 0; i < 7; i++) {
            x.log(0, 1);
        }
        x.day(42);
        int[] due = {3, 2, 4, 5, 5, 4, 7, 42, 99};
        for (int what = 0; what < due.length; what++) {
            Bounds.due("count(" + what + ")", x.count(what), due[what]);
        }
        Bounds.due("plies(0)", x.plies(0), 1);
        Bounds.due("count(1) behind a MOVE", x.count(1), 2);
        Bounds.promise(35, "NONE for another what.");
        for (int what : new int[] {-1, 9, Bounds.MIN, Bounds.MAX}) {
            Bounds.due("count(" + what + ")", x.count(what), Bounds.NONE);
        }
    }

    static void all() {
        heap();
        sentAgain();
        rows();
        order();
        fates();
        views();
        lateness();
        day();
        letter();
        when();
        resent();
        post();
        whence();
        log();
        undo();
        images();
        count();
    }
}
