/** Counts the answers that are not as due, and tells them. */
final class Due {
    private static int wrong = 0;
    private static int asked = 0;

    private Due() { }

    static void due(String call, long got, long want) {
        asked++;
        if (got != want) {
            wrong++;
            System.out.println(call + " answered " + got + ", due is " + want);
        }
    }

    static void close() {
        System.out.println(asked + " answers, " + wrong + " not as due");
        if (wrong != 0 || asked == 0) {
            System.exit(1);
        }
    }

    /** The five numbers of a feed(), from a place of a text on, with blanks behind its end. */
    static int[] five(String text, int from) {
        int[] five = new int[5];
        for (int i = 0; i < 20; i++) {
            int sign = from + i < text.length() ? text.charAt(from + i) : ' ';
            five[i / 4] = five[i / 4] << 8 | sign;
        }
        return five;
    }

    /** Feeds a text and has it read; what text() answers. */
    static int tell(PostStones x, String text) {
        for (int from = 0; from < text.length(); from += 20) {
            int[] f = five(text, from);
            x.feed(f[0], f[1], f[2], f[3], f[4]);
        }
        return x.text(text.length());
    }

    /** A new object with a text that has no fault. */
    static PostStones told(String text) {
        PostStones x = new PostStones();
        if (tell(x, text) < 0) {
            due("text() of " + text + ", fault " + x.fault(0) + " at " + x.fault(1), 0, 1);
        }
        return x;
    }

    /** What look() answers; -100 and -200 for its two exceptions, -300 for one of a class below them. */
    static int look(PostStones x, int kind, int what) {
        try {
            return x.look(kind, what);
        } catch (IndexOutOfBoundsException e) {
            return e.getClass() == IndexOutOfBoundsException.class ? -100 : -300;
        } catch (java.util.NoSuchElementException e) {
            return e.getClass() == java.util.NoSuchElementException.class ? -200 : -300;
        }
    }
}
