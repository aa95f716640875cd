/** Promises 1 to 6 and 35: the tape, the text and its faults, what the text told. */
public final class TextTests {
    private static final String KIND = "kind k leaps 1 0;";

    private static void fault(String text, int number, int place) {
        PostStones x = new PostStones();
        Due.due("text of '" + text + "'", Due.tell(x, text), PostStones.NONE);
        Due.due("fault(0) of '" + text + "'", x.fault(0), number);
        Due.due("fault(1) of '" + text + "'", x.fault(1), place);
    }

    private static void good(String text, int lines) {
        PostStones x = new PostStones();
        Due.due("text of '" + text + "'", Due.tell(x, text), lines);
        Due.due("fault(0) of '" + text + "'", x.fault(0), 0);
        Due.due("fault(1) of '" + text + "'", x.fault(1), PostStones.NONE);
    }

    private static void newObject() {
        PostStones x = new PostStones();
        int[] counts = {0, 0, 3, 3, 0, 0, 0, 0, 60};
        for (int what = 0; what < counts.length; what++) {
            Due.due("count(" + what + ") of a new one", x.count(what), counts[what]);
        }
        Due.due("fault(0) of a new one", x.fault(0), 0);
        Due.due("fault(1) of a new one", x.fault(1), PostStones.NONE);
        Due.due("text(1) of an empty tape", x.text(1), -2);
        Due.due("text(0) of an empty tape", x.text(0), 0);
        Due.due("at(0, 8)", x.at(0, 8), -2);
        Due.due("at(0, 9)", x.at(0, 9), PostStones.NONE);
        Due.due("NONE", PostStones.NONE, -1);
    }

    private static void feed() {
        PostStones x = new PostStones();
        for (int i = 1; i <= 35; i++) {
            Due.due("feed " + i, x.feed(0x20202020, 0x20202020, 0x20202020, 0x20202020, 0x20202020), 20 * i);
        }
        Due.due("feed 36", x.feed(0, 0, 0, 0, 0), PostStones.NONE);
        Due.due("text(701)", x.text(701), -2);
        Due.due("text(700)", x.text(700), 0);
        Due.due("feed behind a text", x.feed(0, 0, 0, 0, 0), 20);
        // the highest byte comes first: "late;" and zeros, of which the last bytes are none of the text
        PostStones y = new PostStones();
        y.feed(0x6c617465, 0x3b000000, 0, 0, 0);
        Due.due("text(5) of late;", y.text(5), 1);
        Due.due("feed: the tape is empty then", y.feed(0xff000000, 0, 0, 0, 0), 20);
        Due.due("text(1) of byte 255", y.text(1), PostStones.NONE);
        Due.due("fault(0) of byte 255", y.fault(0), 1);
        Due.due("feed: a fault empties the tape, too", y.feed(0, 0, 0, 0, 0), 20);
        Due.due("text(-1)", y.text(-1), -2);
        Due.due("text(21)", y.text(21), -2);
        Due.due("fault(0) is of the one ahead of -2", y.fault(0), 1);
        Due.due("feed: -2 leaves the tape", y.feed(0, 0, 0, 0, 0), 40);
    }

    /** The text ends with its n-th byte, even within a word, a number or a sign. */
    private static void cut(String text, int n, int place) {
        PostStones x = new PostStones();
        int[] f = Due.five(text, 0);
        x.feed(f[0], f[1], f[2], f[3], f[4]);
        Due.due("text(" + n + ") of " + text, x.text(n), PostStones.NONE);
        Due.due("fault(0)", x.fault(0), 1);
        Due.due("fault(1) of text(" + n + ") of " + text, x.fault(1), place);
    }

    private static void cuts() {
        cut("late;", 3, 0);
        cut("late;", 4, 4);
        cut("days 12;", 6, 6);
        cut("law 1 <= 2;", 7, 7);
        cut("law 1 <= 2;", 8, 8);
        cut("law 1 <> 2;", 7, 7);
        cut("law 1 >= 2;", 7, 7);
    }

    private static void textClears() {
        PostStones x = Due.told("board 4 5;days 7;" + KIND);
        x.letter(0, 1, 2, -1);
        x.log(0, 1);
        x.day(9);
        x.keep();
        Due.due("a text with a fault", Due.tell(x, "board 2 2;days 1000;"), PostStones.NONE);
        int[] stays = {1, 0, 4, 5, 0, 1, 1, 9, 7};
        for (int what = 0; what < stays.length; what++) {
            Due.due("count(" + what + ") behind a fault", x.count(what), stays[what]);
        }
        Due.due("back() behind a fault", x.back(), 1);
        Due.due("a good text", Due.tell(x, "board 2 2;"), 1);
        int[] fresh = {0, 0, 2, 2, 0, 0, 0, 0, 60};
        for (int what = 0; what < fresh.length; what++) {
            Due.due("count(" + what + ") behind a text", x.count(what), fresh[what]);
        }
        Due.due("back() behind a text", x.back(), PostStones.NONE);
        Due.due("a law is gone with its text", Due.tell(x, "law 1;") + 10 * Due.tell(x, ""), 1);
        Due.due("count(4)", x.count(4), 0);
    }

    private static void grammar() {
        good("", 0);
        good(" \n ", 0);
        good("board3 3;late ; \n days 0;", 3);
        good("kind abcdef runs-1-1-4 4 0 01;", 1);
        good("kind k leaps 1 0 1 0 1 0 1 0 1 0 1 0 1 0 1 0 king;", 1);
        good("board 2 5;" + KIND + "stone k 1 1 4;", 3);
        good("post 0 0;", 1);
        good("post 30 60;days 999;", 2);
        good("kind a leaps 1 0;kind aa leaps 1 0;", 2);
        good("law not not 1 or not (2 < 3) and 4 <= 5 - 6 * 7 / (8 + 9999);", 1);
        good("law takes<>far+row;", 1);
        good("law 1 and not 0 or not 1;", 1);
        good("law ((((((((1))))))))+((((((((1))))))));", 1);
        fault("Board 3 3;", 1, 0);
        fault("late\t;", 1, 4);
        fault(";", 1, 0);
        fault("late;;", 1, 5);
        fault("late", 1, 4);
        fault("late  ", 1, 6);
        fault("leaps;", 1, 0);
        fault("board 3;", 1, 7);
        fault("board 3 -3;", 1, 8);
        fault("board 3 3 3;", 1, 10);
        fault("kind abcdefg leaps 1 0;", 1, 5);
        fault("kind king leaps 1 0;", 1, 5);
        fault("kind others leaps 1 0;", 1, 5);
        String words = "board kind leaps runs king stone law post days late or and not takes far row stones others ply";
        for (String word : words.split(" ")) {
            fault("kind " + word + " leaps 1 0;", 1, 5);
        }
        fault("kind k jumps 1 0;", 1, 7);
        fault("kind k leaps 1;", 1, 14);
        fault("kind k leaps 1 0 1;", 1, 18);
        fault("kind k leaps 1 0 king king;", 1, 22);
        fault("kind k leaps - - 1 0;", 1, 15);
        fault(KIND + "stone 0 0 0 0;", 1, 23);
        fault(KIND + "stone kind 0 0 0;", 1, 23);
        fault("post 3;", 1, 6);
        fault("days;", 1, 4);
    }

    private static void lawGrammar() {
        fault("law", 1, 3);
        fault("law 1", 1, 5);
        fault("law 1 2;", 1, 6);
        fault("law 1 < 2 < 3;", 1, 10);
        fault("law 1 < = 2;", 1, 8);
        fault("law 1 => 2;", 1, 7);
        fault("law 1 + not 2;", 1, 8);
        fault("law 1 = not 2;", 1, 8);
        fault("law -1;", 1, 4);
        fault("law (1;", 1, 6);
        fault("law 1);", 1, 5);
        fault("law ();", 1, 5);
        fault("law 1 or;", 1, 8);
        fault("law law;", 1, 4);
        fault("law 10000;", 2, 4);
        fault("law 1 + 99999999999999999999;", 2, 8);
        fault("law (((((((((1)))))))));", 2, 12);
        StringBuilder sum = new StringBuilder("law not 1");
        for (int i = 0; i < 31; i++) {
            sum.append("+1");
        }
        PostStones x = Due.told(sum + ";");
        Due.due("count(4): 64 KNOTS", x.count(4), 64);
        StringBuilder nots = new StringBuilder("kind k leaps 1 0;stone k 0 0 0;law ");
        for (int i = 0; i < 53; i++) {
            nots.append("not ");
        }
        nots.append("(0 * (1 - (1 - (1 - (1 - 1)))));");
        Due.due("law(0, 1) of 53 times not 0: the pile is high", Due.told(nots.toString()).law(0, 1), 1);
        fault(sum + "+1;", 2, sum.length());
        fault(sum + "(1;", 1, sum.length());
        fault(sum.substring(0, sum.length() - 2) + "*((;", 1, sum.length() + 1);
        fault(sum.toString().replace("not", "not not") + ";", 2, sum.length() + 3);
        Due.due("count(4): signs of two letters are one", Due.told("law (1 <= 2) <> 3;").count(4), 5);
    }

    private static void tooMuch() {
        fault("board 1 3;", 2, 6);
        fault("board 3 6;", 2, 8);
        fault("kind k leaps -5 0;", 2, 14);
        fault("kind k leaps 1 0 1 0 1 0 1 0 1 0 1 0 1 0 1 0 -x;", 2, 45);
        fault("kind k leaps 1 0 1 0 1 0 1 0 1 0 1 0 1 0 1 0 1;", 2, 45);
        fault("kind a leaps 1 0;kind b leaps 1 0;kind c leaps 1 0;kind d leaps 1 0; kind x;", 2, 69);
        StringBuilder s = new StringBuilder(KIND);
        for (int i = 0; i < 8; i++) {
            s.append("stone k 0 ").append(i % 3).append(' ').append(i / 3).append(';');
        }
        Due.due("count(1): 8 stones", Due.told(s.toString()).count(1), 8);
        fault(s + "stone x;", 2, s.length());
        fault(KIND + "stone k 2 0 0;", 2, 25);
        fault(KIND + "stone k 0 3 0;", 2, 27);
        fault("board 2 4;" + KIND + "stone k 0 1 4;", 2, 39);
        fault("post 31 40;", 2, 5);
        fault("post 30 61;", 2, 8);
        fault("post 5 4;", 2, 7);
        fault("days 1000;", 2, 5);
    }

    private static void toldAlready() {
        fault("board 3 3;board;", 3, 10);
        fault(KIND + "kind k;", 3, 22);
        fault(KIND + "stone k 0 0 0;board 2 2;", 3, 31);
        fault("law 1; law 2;", 3, 7);
        fault("post 1 2;post 1 2;", 3, 9);
        fault("days 1;days 1;", 3, 7);
        fault("late;late;", 3, 5);
        fault("stone k 0 0 0;", 4, 6);
        fault(KIND + "stone kk 0 0 0;", 4, 23);
        fault(KIND + "stone k 0 1 2;stone k 1 1 2;", 5, 43);
        fault("kind k leaps 0 0;", 5, 15);
        fault("kind k leaps 1 0 0 - 0;", 5, 21);
    }

    private static void whatWasTold() {
        PostStones x = Due.told("board 4 2;kind b leaps 1 1 king;kind run runs 1 0 0 1 -1 0;kind zzzzzz leaps 4 4;"
            + "stone b 0 0 0;stone run 1 3 1;law row < 3;days 12;");
        Due.due("named(b)", x.named(2 << 25), 0);
        Due.due("named(run)", x.named(18 << 25 | 21 << 20 | 14 << 15), 1);
        Due.due("named(zzzzzz)", x.named(26 * (1 << 25 | 1 << 20 | 1 << 15 | 1 << 10 | 1 << 5 | 1)), 2);
        Due.due("named(c)", x.named(3 << 25), PostStones.NONE);
        Due.due("named(b with more bits)", x.named(2 << 25 | 1 << 30), PostStones.NONE);
        Due.due("named(0)", x.named(0), PostStones.NONE);
        Due.due("named(-1)", x.named(-1), PostStones.NONE);
        int[][] kinds = {{0, 1, 1}, {1, 3, 0}, {0, 1, 0}};
        for (int kind = 0; kind < 3; kind++) {
            for (int what = 0; what < 3; what++) {
                Due.due("look(" + kind + ", " + what + ")", Due.look(x, kind, what), kinds[kind][what]);
            }
        }
        Due.due("look(3, 0) throws", Due.look(x, 3, 0), -100);
        Due.due("look(-1, 0) throws", Due.look(x, -1, 0), -100);
        Due.due("look(0, 3) throws", Due.look(x, 0, 3), -200);
        Due.due("look(0, -1) throws", Due.look(x, 0, -1), -200);
        int[] counts = {3, 2, 4, 2, 3, 0, 0, 0, 12};
        for (int what = 0; what < counts.length; what++) {
            Due.due("count(" + what + ")", x.count(what), counts[what]);
        }
        Due.due("count(9)", x.count(9), PostStones.NONE);
        Due.due("count(-1)", x.count(-1), PostStones.NONE);
        Due.due("fault(2)", x.fault(2), PostStones.NONE);
        Due.due("fault(-1)", x.fault(-1), PostStones.NONE);
    }

    public static void main(String[] args) {
        newObject();
        feed();
        cuts();
        textClears();
        grammar();
        lawGrammar();
        tooMuch();
        toldAlready();
        whatWasTold();
        Due.close();
    }
}
