import java.util.NoSuchElementException;

/**
 * A game of stones by post. A text tells the board, the kinds of stones, the law of moves and the
 * rules of the post; letters with ifs make rows of moves, as the umpire or each player sees them.
 */
public final class PostStones {
    public static final int NONE = -1;

    /** Answered where a thing could be there and is not: an empty point, no safe move, no win. */
    private static final int NOTHING = -2;

    private static final int MOST_BYTES = 700;
    private static final int BYTES_A_FEED = 20;
    private static final int MOST_POINTS = 25;
    private static final int MOST_KINDS = 4;
    private static final int MOST_STEPS = 8;
    private static final int MOST_STONES = 8;
    private static final int MOST_TIMES = 4;
    private static final int MOST_KNOTS = 64;
    private static final int MOST_OPEN = 8;
    private static final int MOST_LETTERS = 16;
    private static final int MOST_IFS = 6;
    private static final int MOST_LOGS = 20;
    private static final int MOST_PLIES = 60;
    private static final int MOST_DRAWS = 20;
    private static final int LAST_DAY = 999;
    private static final int LAST_MOVE = 4095;
    private static final int VIEWS = 4;

    /** Eight stones of 24 points each come to 192. */
    private static final int MOST_MOVES = 200;

    private static final int DRAWN = 3;

    private final Tokens tokens = new Tokens();
    private final LineReader reader = new LineReader();
    private Rules rules = new Rules();
    private Rules spare = new Rules();
    private final Letters letters = new Letters();
    private final Letters image = new Letters();
    private boolean kept = false;
    private final Row[] rows = new Row[VIEWS];
    private final Row lots = new Row();
    private final int[] drawnArrivals = new int[MOST_LETTERS];
    private final Search search = new Search();

    /** How often what the rows are made of has changed: a row with another number is made anew. */
    private int changes = 0;

    public PostStones() {
        for (int view = 0; view < VIEWS; view++) {
            rows[view] = new Row();
        }
    }

    public int feed(int a, int b, int c, int d, int e) {
        if (!tokens.hasRoom()) {
            return NONE;
        }
        tokens.append(a);
        tokens.append(b);
        tokens.append(c);
        tokens.append(d);
        tokens.append(e);
        return tokens.fed;
    }

    public int text(int n) {
        if (n < 0 || n > tokens.fed) {
            return NOTHING;
        }
        tokens.open(n);
        int lines = reader.readText(tokens, spare);
        tokens.fed = 0;
        if (lines == NONE) {
            return NONE;
        }
        Rules told = spare;
        spare = rules;
        rules = told;
        letters.clear();
        kept = false;
        changes++;
        return lines;
    }

    public int fault(int what) {
        switch (what) {
            case 0: return tokens.faultNumber;
            case 1: return tokens.faultPlace;
            default: return NONE;
        }
    }

    public int named(int letters) {
        return rules.kindNamed(letters);
    }

    public int look(int kind, int what) throws IndexOutOfBoundsException, NoSuchElementException {
        if (kind < 0 || kind >= rules.kinds) {
            throw new IndexOutOfBoundsException("no such kind");
        }
        switch (what) {
            case 0: return rules.runs[kind] ? 1 : 0;
            case 1: return rules.steps[kind];
            case 2: return rules.kings[kind] ? 1 : 0;
            default: throw new NoSuchElementException("no such what");
        }
    }

    public boolean day(int day) {
        if (!isDay(day)) {
            return false;
        }
        letters.today = day;
        changes++;
        return true;
    }

    public int letter(int player, int mark, int arrival, int answers) {
        if (!isPlayer(player) || !isDay(mark) || !isDay(arrival) || letters.isFull()) {
            return NONE;
        }
        if (answers != NONE && (!letters.has(answers) || letters.player[answers] == player)) {
            return NONE;
        }
        changes++;
        return letters.addLetter(player, mark, arrival, answers);
    }

    public int when(int ply, int ahead, int move) {
        int last = letters.size - 1;
        if (last < 0 || letters.resentOf[last] != NONE || letters.ifs[last] >= MOST_IFS) {
            return NONE;
        }
        if (ply < 0 || ply >= MOST_PLIES || (ply & 1) != letters.player[last]) {
            return NONE;
        }
        if ((ahead != NONE && !isMove(ahead)) || !isMove(move)) {
            return NONE;
        }
        changes++;
        return letters.addIf(ply, ahead, move);
    }

    public int resent(int letter, int mark, int arrival) {
        if (!letters.has(letter) || !isDay(mark) || !isDay(arrival) || letters.isFull()) {
            return NONE;
        }
        changes++;
        return letters.addResent(letter, mark, arrival);
    }

    public int post(int letter, int what) {
        if (!letters.has(letter)) {
            return Integer.MIN_VALUE;
        }
        switch (what) {
            case 0: return letters.player[letter];
            case 1: return letters.mark[letter];
            case 2: return letters.arrival[letter];
            case 3: return letters.answers[letter];
            case 4: return letters.ifsOf(letter);
            case 5: return letters.resentOf[letter];
            case 6: return letters.lateness(letter);
            default: return Integer.MIN_VALUE;
        }
    }

    public int whence(int letter, int which, int what) {
        if (!letters.has(letter) || which < 0 || which >= letters.ifsOf(letter) || !isBit(what)) {
            return NONE;
        }
        int fate = seen(0).fateOf(letters, letter, which);
        if (what == 1) {
            return fate < 0 ? -fate : 0;
        }
        return fate < 0 ? NOTHING : fate;
    }

    public int plies(int view) {
        return isView(view) ? seen(view).board.made : NONE;
    }

    public int row(int view, int k) {
        if (!isView(view) || k < 0 || k >= seen(view).board.made) {
            return NONE;
        }
        return seen(view).played[k];
    }

    public int by(int view, int k) {
        if (!isView(view) || k < 0 || k >= seen(view).board.made) {
            return NONE;
        }
        return seen(view).writers[k];
    }

    public int at(int view, int point) {
        if (!isView(view) || point < 0 || point >= rules.points()) {
            return NONE;
        }
        return seen(view).board.cells[point];
    }

    public int turn(int view) {
        return isView(view) ? seen(view).board.toMove() : NONE;
    }

    public int end(int view) {
        return isView(view) ? seen(view).ending : NONE;
    }

    public int moves(int view) {
        return isView(view) ? seen(view).choices : NONE;
    }

    public int move(int view, int k) {
        if (!isView(view) || k < 0 || k >= seen(view).choices) {
            return NONE;
        }
        return seen(view).open[k];
    }

    public long law(int view, int move) {
        if (!isView(view) || !isMove(move)) {
            return Law.ERROR;
        }
        return seen(view).board.lawOfMove(move);
    }

    public int sure(int view, int player, int move, int what) {
        if (!isView(view) || !isPlayer(player) || !isMove(move) || !isBit(what)) {
            return NONE;
        }
        Row now = seen(view);
        if (now.ending != 0) {
            return 0;
        }
        if (player == now.board.toMove()) {
            return what == 1 || now.board.isLawful(move) ? 1 : 0;
        }
        return what == 1 ? now.choices : search.lawfulBehind(now, move);
    }

    public int games(int view, int n) {
        if (!isView(view) || n < 0 || n > 3) {
            return NONE;
        }
        Row now = seen(view);
        if (now.ending != 0) {
            return n == 0 ? 1 : 0;
        }
        return search.rowsOf(now.board, n, 0);
    }

    public int safe(int view, int player, int n, int what) {
        if (!isSafeAsked(view, player, n) || !isBit(what)) {
            return NONE;
        }
        Row now = seen(view);
        if (now.ending != 0) {
            return now.ending == 2 - player ? NOTHING : 0;
        }
        boolean toMove = player == now.board.toMove();
        boolean lost = toMove
            ? search.firstSafe(now.board, n) == NOTHING
            : search.refutation(now, n) != NOTHING;
        if (lost) {
            return NOTHING;
        }
        int ifs = toMove ? 1 : now.choices;
        if (what == 0) {
            return ifs;
        }
        return ifs <= MOST_IFS ? 1 : 0;
    }

    public int reply(int view, int player, int n, int k) {
        if (!isSafeAsked(view, player, n) || k < 0) {
            return NONE;
        }
        Row now = seen(view);
        if (now.ending != 0) {
            return NONE;
        }
        if (player == now.board.toMove()) {
            return k == 0 ? search.firstSafe(now.board, n) : NONE;
        }
        return k < now.choices ? search.safeBehind(now.board, now.open[k], n) : NONE;
    }

    public int refuted(int view, int player, int n) {
        if (!isSafeAsked(view, player, n)) {
            return NONE;
        }
        Row now = seen(view);
        if (now.ending != 0 || player == now.board.toMove()) {
            return NOTHING;
        }
        return search.refutation(now, n);
    }

    public int fewest(int view) {
        if (!isView(view)) {
            return NONE;
        }
        Row now = seen(view);
        if (now.ending != 0) {
            return NOTHING;
        }
        if (search.wins(now.board, 1)) {
            return 1;
        }
        return search.wins(now.board, 3) ? 2 : NOTHING;
    }

    public int clock(int player, int what) {
        if (!isPlayer(player) || !isBit(what)) {
            return NONE;
        }
        int used = letters.daysUsed(player);
        if (what == 0) {
            return used;
        }
        return used > rules.days ? 1 : 0;
    }

    public int log(int letter, int day) {
        if (!letters.has(letter) || !isDay(day) || letters.logs >= MOST_LOGS) {
            return NONE;
        }
        return letters.addLog(letter, day);
    }

    public int forged() {
        return letters.leastUntrue(rules.least, rules.most);
    }

    public int lot(int view, int seed, int draws) {
        if (!isView(view) || seed < 0 || draws < 1 || draws > MOST_DRAWS) {
            return NONE;
        }
        Row now = seen(view);
        int number = seed;
        int otherwise = 0;
        for (int draw = 0; draw < draws; draw++) {
            number = drawArrivals(number);
            int known = letters.known(view, drawnArrivals);
            if (known != now.known) {
                lots.replay(rules, letters, known);
                otherwise += lots.hasMovesOf(now) ? 0 : 1;
            }
        }
        return otherwise;
    }

    public int undo() {
        if (letters.size == 0) {
            return NONE;
        }
        changes++;
        return letters.takeBack();
    }

    public int keep() {
        image.copyFrom(letters);
        kept = true;
        return letters.size;
    }

    public int back() {
        if (!kept) {
            return NONE;
        }
        letters.copyFrom(image);
        changes++;
        return letters.size;
    }

    public int count(int what) {
        switch (what) {
            case 0: return rules.kinds;
            case 1: return rules.stones;
            case 2: return rules.wide;
            case 3: return rules.high;
            case 4: return rules.law.size;
            case 5: return letters.size;
            case 6: return letters.logs;
            case 7: return letters.today;
            case 8: return rules.days;
            default: return NONE;
        }
    }

    private Row seen(int view) {
        Row row = rows[view];
        if (row.madeAt != changes) {
            row.replay(rules, letters, letters.known(view, letters.arrival));
            row.madeAt = changes;
        }
        return row;
    }

    /** Draws an arrival for each letter; answers the last number, for the next draw. */
    private int drawArrivals(int seed) {
        long number = seed;
        int span = rules.most - rules.least + 1;
        if (span < 1) {
            return seed;
        }
        for (int letter = 0; letter < letters.size; letter++) {
            number = (number * 1103515245L + 12345L) & 0x7fffffffL;
            drawnArrivals[letter] = letters.mark[letter] + rules.least + (int) (number / 65536L % span);
        }
        return (int) number;
    }

    private static boolean isView(int view) {
        return view >= 0 && view < VIEWS;
    }

    private static boolean isPlayer(int player) {
        return isBit(player);
    }

    private static boolean isBit(int what) {
        return what == 0 || what == 1;
    }

    private static boolean isDay(int day) {
        return day >= 0 && day <= LAST_DAY;
    }

    private static boolean isMove(int move) {
        return move >= 0 && move <= LAST_MOVE;
    }

    private static boolean isSafeAsked(int view, int player, int n) {
        return isView(view) && isPlayer(player) && n >= 0 && n <= 2;
    }

    /** The words of the language, 5 bits a letter, the first one highest of six. */
    private static final class Words {
        static final int BOARD = 2 << 25 | 15 << 20 | 1 << 15 | 18 << 10 | 4 << 5;
        static final int KIND = 11 << 25 | 9 << 20 | 14 << 15 | 4 << 10;
        static final int LEAPS = 12 << 25 | 5 << 20 | 1 << 15 | 16 << 10 | 19 << 5;
        static final int RUNS = 18 << 25 | 21 << 20 | 14 << 15 | 19 << 10;
        static final int KING = 11 << 25 | 9 << 20 | 14 << 15 | 7 << 10;
        static final int STONE = 19 << 25 | 20 << 20 | 15 << 15 | 14 << 10 | 5 << 5;
        static final int LAW = 12 << 25 | 1 << 20 | 23 << 15;
        static final int POST = 16 << 25 | 15 << 20 | 19 << 15 | 20 << 10;
        static final int DAYS = 4 << 25 | 1 << 20 | 25 << 15 | 19 << 10;
        static final int LATE = 12 << 25 | 1 << 20 | 20 << 15 | 5 << 10;
        static final int OR = 15 << 25 | 18 << 20;
        static final int AND = 1 << 25 | 14 << 20 | 4 << 15;
        static final int NOT = 14 << 25 | 15 << 20 | 20 << 15;
        static final int TAKES = 20 << 25 | 1 << 20 | 11 << 15 | 5 << 10 | 19 << 5;
        static final int FAR = 6 << 25 | 1 << 20 | 18 << 15;
        static final int ROW = 18 << 25 | 15 << 20 | 23 << 15;
        static final int STONES = 19 << 25 | 20 << 20 | 15 << 15 | 14 << 10 | 5 << 5 | 19;
        static final int OTHERS = 15 << 25 | 20 << 20 | 8 << 15 | 5 << 10 | 18 << 5 | 19;
        static final int PLY = 16 << 25 | 12 << 20 | 25 << 15;

        /** The NAMES, in the order of the facts that a law is worked out with. */
        private static final int[] NAMES = {TAKES, FAR, ROW, KIND, STONES, OTHERS, PLY, KING};

        private static final int[] OTHER_WORDS = {
            BOARD, LEAPS, RUNS, STONE, LAW, POST, DAYS, LATE, OR, AND, NOT};

        static int nameNumber(int word) {
            for (int i = 0; i < NAMES.length; i++) {
                if (NAMES[i] == word) {
                    return i;
                }
            }
            return NONE;
        }

        static boolean isOfLanguage(int word) {
            for (int i = 0; i < OTHER_WORDS.length; i++) {
                if (OTHER_WORDS[i] == word) {
                    return true;
                }
            }
            return nameNumber(word) != NONE;
        }
    }

    /** The tape, and the tokens of its first bytes, one at a time, with the fault found in them. */
    private static final class Tokens {
        static final int OVER = 0;
        static final int WORD = 1;
        static final int NUMBER = 2;
        static final int SIGN = 3;
        static final int WRONG = 4;

        /** Signs of two characters have numbers above all bytes. */
        static final int AT_MOST = 256;
        static final int UNLIKE = 257;
        static final int AT_LEAST = 258;

        /** Every number of the language is below it, so longer ones may stop here. */
        private static final int HUGE = 100000;

        private final int[] bytes = new int[MOST_BYTES];
        int fed = 0;
        private int limit = 0;
        private int next = 0;
        int sort = OVER;
        int value = 0;
        int place = 0;
        int faultNumber = 0;
        int faultPlace = NONE;

        boolean hasRoom() {
            return fed + BYTES_A_FEED <= MOST_BYTES;
        }

        void append(int four) {
            for (int shift = 24; shift >= 0 && fed < MOST_BYTES; shift -= 8) {
                bytes[fed] = (four >> shift) & 255;
                fed++;
            }
        }

        void open(int length) {
            limit = length;
            next = 0;
            faultNumber = 0;
            faultPlace = NONE;
            advance();
        }

        /** Notes a fault at the present token; answers false, for the reader to hand on. */
        boolean refuse(int number) {
            faultNumber = number;
            faultPlace = place;
            return false;
        }

        boolean isWord(int word) {
            return sort == WORD && value == word;
        }

        boolean isSign(int sign) {
            return sort == SIGN && value == sign;
        }

        void advance() {
            while (next < limit && (bytes[next] == 10 || bytes[next] == 32)) {
                next++;
            }
            place = next;
            value = 0;
            if (next >= limit) {
                sort = OVER;
                return;
            }
            int sign = bytes[next];
            if (sign >= 'a' && sign <= 'z') {
                readWord();
            } else if (sign >= '0' && sign <= '9') {
                readNumber();
            } else {
                readSign();
            }
        }

        private void readWord() {
            int shift = 25;
            sort = WORD;
            while (next < limit && bytes[next] >= 'a' && bytes[next] <= 'z') {
                if (shift < 0) {
                    sort = WRONG;
                } else {
                    value |= (bytes[next] - 'a' + 1) << shift;
                    shift -= 5;
                }
                next++;
            }
        }

        private void readNumber() {
            sort = NUMBER;
            while (next < limit && bytes[next] >= '0' && bytes[next] <= '9') {
                int longer = value * 10 + bytes[next] - '0';
                value = longer > HUGE ? HUGE : longer;
                next++;
            }
        }

        private void readSign() {
            value = bytes[next];
            next++;
            int behind = next < limit ? bytes[next] : NONE;
            sort = SIGN;
            switch (value) {
                case ';', '-', '+', '*', '/', '(', ')', '=':
                    return;
                case '<':
                    if (behind == '=' || behind == '>') {
                        value = behind == '=' ? AT_MOST : UNLIKE;
                        next++;
                    }
                    return;
                case '>':
                    if (behind == '=') {
                        value = AT_LEAST;
                        next++;
                    }
                    return;
                default:
                    sort = WRONG;
            }
        }
    }

    /** What a text tells. */
    private static final class Rules {
        int wide;
        int high;
        int kinds;
        int stones;
        int least;
        int most;
        int days;
        boolean late;
        final int[] names = new int[MOST_KINDS];
        final boolean[] runs = new boolean[MOST_KINDS];
        final boolean[] kings = new boolean[MOST_KINDS];
        final int[] steps = new int[MOST_KINDS];
        final int[] across = new int[MOST_KINDS * MOST_STEPS];
        final int[] along = new int[MOST_KINDS * MOST_STEPS];
        final int[] cells = new int[MOST_POINTS];
        final boolean[] crowned = new boolean[2];
        final Law law = new Law();

        Rules() {
            clear();
        }

        void clear() {
            wide = 3;
            high = 3;
            kinds = 0;
            stones = 0;
            least = 4;
            most = 11;
            days = 60;
            late = false;
            crowned[0] = false;
            crowned[1] = false;
            law.size = 0;
            for (int point = 0; point < MOST_POINTS; point++) {
                cells[point] = NOTHING;
            }
        }

        int points() {
            return wide * high;
        }

        int kindNamed(int name) {
            for (int kind = 0; kind < kinds; kind++) {
                if (names[kind] == name) {
                    return kind;
                }
            }
            return NONE;
        }

        void addStep(int kind, int x, int y) {
            int step = kind * MOST_STEPS + steps[kind];
            across[step] = x;
            along[step] = y;
            steps[kind]++;
        }

        void addStone(int kind, int player, int point) {
            cells[point] = kind + 4 * player;
            stones++;
            if (kings[kind]) {
                crowned[player] = true;
            }
        }
    }

    /** Reads a text's LINES into rules; each method answers whether there was no fault. */
    private static final class LineReader {
        private static final int BOARD_TOLD = 1;
        private static final int LAW_TOLD = 2;
        private static final int POST_TOLD = 4;
        private static final int DAYS_TOLD = 8;
        private static final int LATE_TOLD = 16;

        private final LawReader lawReader = new LawReader();
        private int told = 0;
        private int offset = 0;

        /** How many LINES there were; NONE with a fault, which the tokens hold then. */
        int readText(Tokens in, Rules rules) {
            rules.clear();
            told = 0;
            int lines = 0;
            while (in.sort != Tokens.OVER && lines < MOST_BYTES) {
                if (!readLine(in, rules)) {
                    return NONE;
                }
                if (!in.isSign(';')) {
                    in.refuse(1);
                    return NONE;
                }
                in.advance();
                lines++;
            }
            return lines;
        }

        private boolean readLine(Tokens in, Rules rules) {
            if (in.sort != Tokens.WORD) {
                return in.refuse(1);
            }
            switch (in.value) {
                case Words.BOARD: return readBoard(in, rules);
                case Words.KIND: return readKind(in, rules);
                case Words.STONE: return readStone(in, rules);
                case Words.LAW: return tellOnce(in, LAW_TOLD) && lawReader.readLaw(in, rules.law);
                case Words.POST: return readPost(in, rules);
                case Words.DAYS: return readDays(in, rules);
                case Words.LATE:
                    rules.late = true;
                    return tellOnce(in, LATE_TOLD);
                default: return in.refuse(1);
            }
        }

        private boolean tellOnce(Tokens in, int line) {
            if ((told & line) != 0) {
                return in.refuse(3);
            }
            told |= line;
            in.advance();
            return true;
        }

        /** Whether the present token is a number in bounds; it stays the present one. */
        private boolean isNumber(Tokens in, int least, int most) {
            if (in.sort != Tokens.NUMBER) {
                return in.refuse(1);
            }
            return (in.value >= least && in.value <= most) || in.refuse(2);
        }

        private boolean readBoard(Tokens in, Rules rules) {
            if (rules.stones > 0) {
                return in.refuse(3);
            }
            if (!tellOnce(in, BOARD_TOLD) || !isNumber(in, 2, 5)) {
                return false;
            }
            rules.wide = in.value;
            in.advance();
            if (!isNumber(in, 2, 5)) {
                return false;
            }
            rules.high = in.value;
            in.advance();
            return true;
        }

        private boolean readKind(Tokens in, Rules rules) {
            int kind = rules.kinds;
            if (kind >= MOST_KINDS) {
                return in.refuse(2);
            }
            in.advance();
            if (in.sort != Tokens.WORD || Words.isOfLanguage(in.value)) {
                return in.refuse(1);
            }
            if (rules.kindNamed(in.value) != NONE) {
                return in.refuse(3);
            }
            rules.names[kind] = in.value;
            in.advance();
            if (!in.isWord(Words.LEAPS) && !in.isWord(Words.RUNS)) {
                return in.refuse(1);
            }
            rules.runs[kind] = in.isWord(Words.RUNS);
            in.advance();
            if (!readSteps(in, rules, kind)) {
                return false;
            }
            rules.kings[kind] = in.isWord(Words.KING);
            if (rules.kings[kind]) {
                in.advance();
            }
            rules.kinds++;
            return true;
        }

        private boolean readSteps(Tokens in, Rules rules, int kind) {
            rules.steps[kind] = 0;
            for (int step = 0; step == 0 || in.sort == Tokens.NUMBER || in.isSign('-'); step++) {
                if (step >= MOST_STEPS) {
                    return in.refuse(2);
                }
                if (!readOffset(in)) {
                    return false;
                }
                int x = offset;
                in.advance();
                if (!readOffset(in)) {
                    return false;
                }
                if (x == 0 && offset == 0) {
                    return in.refuse(5);
                }
                rules.addStep(kind, x, offset);
                in.advance();
            }
            return true;
        }

        /** The number of the offset stays the present token, for a fault to be told at it. */
        private boolean readOffset(Tokens in) {
            boolean below = in.isSign('-');
            if (below) {
                in.advance();
            }
            if (!isNumber(in, 0, 4)) {
                return false;
            }
            offset = below ? -in.value : in.value;
            return true;
        }

        private boolean readStone(Tokens in, Rules rules) {
            if (rules.stones >= MOST_STONES) {
                return in.refuse(2);
            }
            in.advance();
            if (in.sort != Tokens.WORD || Words.isOfLanguage(in.value)) {
                return in.refuse(1);
            }
            int kind = rules.kindNamed(in.value);
            if (kind == NONE) {
                return in.refuse(4);
            }
            in.advance();
            if (!isNumber(in, 0, 1)) {
                return false;
            }
            int player = in.value;
            in.advance();
            if (!isNumber(in, 0, rules.wide - 1)) {
                return false;
            }
            int x = in.value;
            in.advance();
            if (!isNumber(in, 0, rules.high - 1)) {
                return false;
            }
            int point = in.value * rules.wide + x;
            if (rules.cells[point] != NOTHING) {
                return in.refuse(5);
            }
            rules.addStone(kind, player, point);
            in.advance();
            return true;
        }

        private boolean readPost(Tokens in, Rules rules) {
            if (!tellOnce(in, POST_TOLD) || !isNumber(in, 0, 30)) {
                return false;
            }
            rules.least = in.value;
            in.advance();
            if (!isNumber(in, rules.least, 60)) {
                return false;
            }
            rules.most = in.value;
            in.advance();
            return true;
        }

        private boolean readDays(Tokens in, Rules rules) {
            if (!tellOnce(in, DAYS_TOLD) || !isNumber(in, 0, LAST_DAY)) {
                return false;
            }
            rules.days = in.value;
            in.advance();
            return true;
        }
    }

    /** A law as a row of knots, each behind those that it joins; it has none without a law. */
    private static final class Law {
        /** No value comes near it; it isn't 0, so that what it stands for is lawful. */
        static final long ERROR = Long.MIN_VALUE;

        static final long LARGEST = 1000000000000L;

        /** Knots from 0 on are numbers; NAMES are -1 down to -8. */
        static final int LAST_NAME = -8;
        static final int OR = -9;
        static final int AND = -10;
        static final int NOT = -11;
        static final int LESS = -12;
        static final int AT_MOST = -13;
        static final int EQUAL = -14;
        static final int UNLIKE = -15;
        static final int AT_LEAST = -16;
        static final int MORE = -17;
        static final int PLUS = -18;
        static final int MINUS = -19;
        static final int TIMES = -20;
        static final int BY = -21;

        private final int[] knots = new int[MOST_KNOTS];
        private final long[] values = new long[MOST_KNOTS];
        int size = 0;

        void add(int knot) {
            if (size < MOST_KNOTS) {
                knots[size] = knot;
                size++;
            }
        }

        /** The value of the law with these facts, told in the order of the NAMES. */
        long worth(int[] facts) {
            int top = 0;
            for (int i = 0; i < size; i++) {
                int knot = knots[i];
                long value = ERROR;
                if (knot >= LAST_NAME) {
                    value = knot >= 0 ? knot : facts[-1 - knot];
                } else {
                    top -= knot == NOT ? 1 : 2;
                    if (top < 0) {
                        return ERROR;
                    }
                    value = joined(knot, values[top], knot == NOT ? 0 : values[top + 1]);
                }
                if (value > LARGEST || value < -LARGEST) {
                    return ERROR;
                }
                values[top] = value;
                top++;
            }
            return top == 1 ? values[0] : ERROR;
        }

        private static long joined(int knot, long a, long b) {
            switch (knot) {
                case OR: return a != 0 || b != 0 ? 1 : 0;
                case AND: return a != 0 && b != 0 ? 1 : 0;
                case NOT: return a == 0 ? 1 : 0;
                case LESS: return a < b ? 1 : 0;
                case AT_MOST: return a <= b ? 1 : 0;
                case EQUAL: return a == b ? 1 : 0;
                case UNLIKE: return a != b ? 1 : 0;
                case AT_LEAST: return a >= b ? 1 : 0;
                case MORE: return a > b ? 1 : 0;
                case PLUS: return a + b;
                case MINUS: return a - b;
                // tested by a division first, as the product of two such values may not fit a long
                case TIMES: return b != 0 && (a < 0 ? -a : a) > LARGEST / (b < 0 ? -b : b) ? ERROR : a * b;
                case BY: return b == 0 ? ERROR : a / b;
                default: return ERROR;
            }
        }
    }

    /** Reads a law's E by ranks of its signs: those that still wait for what is behind stand in a pile. */
    private static final class LawReader {
        private static final int AT_START = 0;
        private static final int AT_OPERAND = 1;
        private static final int BEHIND_OPERAND = 2;
        private static final int READ = 3;
        private static final int FAULTY = 4;

        private static final int OPEN = 0;
        private static final int LARGEST_NUMBER = 9999;

        private static final int OPEN_RANK = 0;
        private static final int OR_RANK = 1;
        private static final int AND_RANK = 2;
        private static final int NOT_RANK = 3;
        private static final int RELATION_RANK = 4;
        private static final int SUM_RANK = 5;
        private static final int PRODUCT_RANK = 6;

        private final int[] pile = new int[MOST_KNOTS + MOST_OPEN];
        private int height = 0;
        private int open = 0;
        private int knots = 0;

        /** Reads up to the sign behind E; answers whether there was no fault. */
        boolean readLaw(Tokens in, Law into) {
            height = 0;
            open = 0;
            knots = 0;
            int state = AT_START;
            for (int i = 0; i <= MOST_BYTES && state != READ && state != FAULTY; i++) {
                state = state == BEHIND_OPERAND
                    ? readBehind(in, into)
                    : readOperand(in, into, state == AT_START);
            }
            return state == READ;
        }

        private int readOperand(Tokens in, Law into, boolean notToo) {
            if (in.isSign('(')) {
                return readOpen(in);
            }
            if (notToo && in.isWord(Words.NOT)) {
                return readSign(in, Law.NOT, AT_START);
            }
            int name = in.sort == Tokens.WORD ? Words.nameNumber(in.value) : NONE;
            if (in.sort != Tokens.NUMBER && name == NONE) {
                return fail(in, 1);
            }
            if (knots >= MOST_KNOTS || (name == NONE && in.value > LARGEST_NUMBER)) {
                return fail(in, 2);
            }
            into.add(name == NONE ? in.value : -1 - name);
            knots++;
            in.advance();
            return BEHIND_OPERAND;
        }

        private int readOpen(Tokens in) {
            if (open >= MOST_OPEN) {
                return fail(in, 2);
            }
            open++;
            push(OPEN);
            in.advance();
            return AT_START;
        }

        private int readBehind(Tokens in, Law into) {
            if (in.isSign(')') && open > 0) {
                settle(into, OR_RANK);
                height--;
                open--;
                in.advance();
                return BEHIND_OPERAND;
            }
            if (in.isSign(';') && open == 0) {
                settle(into, OR_RANK);
                return READ;
            }
            int sign = signOf(in);
            if (sign == NONE) {
                return fail(in, 1);
            }
            int rank = rankOf(sign);
            if (rank != RELATION_RANK) {
                settle(into, rank);
                return readSign(in, sign, rank <= AND_RANK ? AT_START : AT_OPERAND);
            }
            settle(into, SUM_RANK);
            // a comparison can't be compared again
            if (height > 0 && rankOf(pile[height - 1]) == RELATION_RANK) {
                return fail(in, 1);
            }
            return readSign(in, sign, AT_OPERAND);
        }

        private int readSign(Tokens in, int sign, int state) {
            if (knots >= MOST_KNOTS) {
                return fail(in, 2);
            }
            knots++;
            push(sign);
            in.advance();
            return state;
        }

        private int fail(Tokens in, int number) {
            in.refuse(number);
            return FAULTY;
        }

        private void push(int sign) {
            if (height < pile.length) {
                pile[height] = sign;
                height++;
            }
        }

        /** Signs of this rank and higher ones on the pile have all that they join. */
        private void settle(Law into, int rank) {
            while (height > 0 && rankOf(pile[height - 1]) >= rank) {
                height--;
                into.add(pile[height]);
            }
        }

        private static int signOf(Tokens in) {
            if (in.sort == Tokens.WORD) {
                if (in.value == Words.OR) {
                    return Law.OR;
                }
                return in.value == Words.AND ? Law.AND : NONE;
            }
            if (in.sort != Tokens.SIGN) {
                return NONE;
            }
            switch (in.value) {
                case '<': return Law.LESS;
                case Tokens.AT_MOST: return Law.AT_MOST;
                case '=': return Law.EQUAL;
                case Tokens.UNLIKE: return Law.UNLIKE;
                case Tokens.AT_LEAST: return Law.AT_LEAST;
                case '>': return Law.MORE;
                case '+': return Law.PLUS;
                case '-': return Law.MINUS;
                case '*': return Law.TIMES;
                case '/': return Law.BY;
                default: return NONE;
            }
        }

        private static int rankOf(int sign) {
            switch (sign) {
                case OPEN: return OPEN_RANK;
                case Law.OR: return OR_RANK;
                case Law.AND: return AND_RANK;
                case Law.NOT: return NOT_RANK;
                case Law.PLUS, Law.MINUS: return SUM_RANK;
                case Law.TIMES, Law.BY: return PRODUCT_RANK;
                default: return RELATION_RANK;
            }
        }
    }

    /** The heap of letters with their IFS, the LOGS and the DAY. */
    private static final class Letters {
        int size = 0;
        final int[] player = new int[MOST_LETTERS];
        final int[] mark = new int[MOST_LETTERS];
        final int[] arrival = new int[MOST_LETTERS];
        final int[] answers = new int[MOST_LETTERS];
        final int[] resentOf = new int[MOST_LETTERS];
        /** The letter that was written first: whose IFS a letter has. */
        final int[] source = new int[MOST_LETTERS];
        final int[] ifs = new int[MOST_LETTERS];
        final int[] plyOfIf = new int[MOST_LETTERS * MOST_IFS];
        final int[] aheadOfIf = new int[MOST_LETTERS * MOST_IFS];
        final int[] moveOfIf = new int[MOST_LETTERS * MOST_IFS];
        int logs = 0;
        private final int[] logLetter = new int[MOST_LOGS];
        private final int[] logDay = new int[MOST_LOGS];
        int today = 0;

        void clear() {
            size = 0;
            logs = 0;
            today = 0;
        }

        boolean has(int letter) {
            return letter >= 0 && letter < size;
        }

        boolean isFull() {
            return size >= MOST_LETTERS;
        }

        int addLetter(int writer, int marked, int arrived, int answered) {
            int letter = size;
            player[letter] = writer;
            mark[letter] = marked;
            arrival[letter] = arrived;
            answers[letter] = answered;
            resentOf[letter] = NONE;
            source[letter] = letter;
            ifs[letter] = 0;
            size++;
            return letter;
        }

        int addResent(int of, int marked, int arrived) {
            int letter = addLetter(player[of], marked, arrived, answers[of]);
            resentOf[letter] = of;
            source[letter] = source[of];
            return letter;
        }

        int addIf(int ply, int ahead, int move) {
            int last = size - 1;
            int place = last * MOST_IFS + ifs[last];
            plyOfIf[place] = ply;
            aheadOfIf[place] = ahead;
            moveOfIf[place] = move;
            ifs[last]++;
            return ifs[last];
        }

        int addLog(int letter, int seenOn) {
            logLetter[logs] = letter;
            logDay[logs] = seenOn;
            logs++;
            return logs;
        }

        int ifsOf(int letter) {
            return ifs[source[letter]];
        }

        int lateness(int letter) {
            return arrival[letter] - mark[letter];
        }

        /** A RESENT letter has no IFS of its own, so it goes as a whole. */
        int takeBack() {
            int last = size - 1;
            if (ifs[last] > 0) {
                ifs[last]--;
            } else {
                size--;
                dropLogsOf(last);
            }
            return size;
        }

        private void dropLogsOf(int letter) {
            int stay = 0;
            for (int i = 0; i < logs; i++) {
                if (logLetter[i] != letter) {
                    logLetter[stay] = logLetter[i];
                    logDay[stay] = logDay[i];
                    stay++;
                }
            }
            logs = stay;
        }

        /** The letters of a VIEW as bits, if they arrive on these days. */
        int known(int view, int[] arrivals) {
            int bits = 0;
            for (int letter = 0; letter < size; letter++) {
                boolean own = view == player[letter] + 1;
                int since = own ? mark[letter] : arrivals[letter];
                if (view == 0 || since <= today) {
                    bits |= 1 << letter;
                }
            }
            return bits;
        }

        int daysUsed(int who) {
            int days = 0;
            boolean first = true;
            for (int letter = 0; letter < size; letter++) {
                if (player[letter] == who && resentOf[letter] == NONE) {
                    int answered = answers[letter];
                    if (answered != NONE) {
                        days += Math.max(0, mark[letter] - arrival[answered]);
                    } else if (first) {
                        days += mark[letter];
                    }
                    first = false;
                }
            }
            return days;
        }

        /** One letter alone may be untrue, or two of which one answers the other: no more are needed. */
        int leastUntrue(int least, int most) {
            for (int letter = 0; letter < size; letter++) {
                if (lateness(letter) < least || lateness(letter) > most || !logsHold(letter)) {
                    return 1 << letter;
                }
            }
            int bits = 0;
            for (int letter = 0; letter < size; letter++) {
                int answered = answers[letter];
                if (answered != NONE && mark[letter] < arrival[answered]) {
                    int two = 1 << letter | 1 << answered;
                    bits = bits == 0 ? two : Math.min(bits, two);
                }
            }
            return bits;
        }

        private boolean logsHold(int letter) {
            for (int i = 0; i < logs; i++) {
                boolean outside = logDay[i] < mark[letter] || logDay[i] > arrival[letter];
                if (logLetter[i] == letter && outside) {
                    return false;
                }
            }
            return true;
        }

        void copyFrom(Letters other) {
            size = other.size;
            logs = other.logs;
            today = other.today;
            System.arraycopy(other.player, 0, player, 0, MOST_LETTERS);
            System.arraycopy(other.mark, 0, mark, 0, MOST_LETTERS);
            System.arraycopy(other.arrival, 0, arrival, 0, MOST_LETTERS);
            System.arraycopy(other.answers, 0, answers, 0, MOST_LETTERS);
            System.arraycopy(other.resentOf, 0, resentOf, 0, MOST_LETTERS);
            System.arraycopy(other.source, 0, source, 0, MOST_LETTERS);
            System.arraycopy(other.ifs, 0, ifs, 0, MOST_LETTERS);
            System.arraycopy(other.plyOfIf, 0, plyOfIf, 0, MOST_LETTERS * MOST_IFS);
            System.arraycopy(other.aheadOfIf, 0, aheadOfIf, 0, MOST_LETTERS * MOST_IFS);
            System.arraycopy(other.moveOfIf, 0, moveOfIf, 0, MOST_LETTERS * MOST_IFS);
            System.arraycopy(other.logLetter, 0, logLetter, 0, MOST_LOGS);
            System.arraycopy(other.logDay, 0, logDay, 0, MOST_LOGS);
        }
    }

    /** The stones on their points behind some MOVES, with what is lawful there. */
    private static final class Board {
        /** Places of the facts, as in Words.NAMES. */
        private static final int TAKES = 0;
        private static final int FAR = 1;
        private static final int ROW = 2;
        private static final int KIND = 3;
        private static final int STONES = 4;
        private static final int OTHERS = 5;
        private static final int PLY = 6;
        private static final int KING = 7;
        private static final int FACTS = 8;

        private Rules rules = null;
        final int[] cells = new int[MOST_POINTS];
        private final int[] stones = new int[2];
        private final int[] kings = new int[2];
        int made = 0;
        private final int[] facts = new int[FACTS];
        private final int[] found = new int[MOST_POINTS];

        void begin(Rules told) {
            rules = told;
            made = 0;
            for (int player = 0; player < 2; player++) {
                stones[player] = 0;
                kings[player] = 0;
            }
            for (int point = 0; point < MOST_POINTS; point++) {
                cells[point] = told.cells[point];
                tally(cells[point], 1);
            }
        }

        int toMove() {
            return made & 1;
        }

        private void tally(int stone, int more) {
            if (stone != NOTHING) {
                stones[stone >> 2] += more;
                kings[stone >> 2] += rules.kings[stone & 3] ? more : 0;
            }
        }

        private boolean isPoint(int point) {
            return rules != null && point >= 0 && point < rules.points();
        }

        private boolean isOwn(int point) {
            return cells[point] >> 2 == (made & 1);
        }

        /** Makes a lawful MOVE; answers what was taken, for it to be unmade. */
        int make(int move) {
            int from = move >> 6;
            int to = move & 63;
            if (!isPoint(from) || !isPoint(to)) {
                return NOTHING;
            }
            int taken = cells[to];
            tally(taken, -1);
            cells[to] = cells[from];
            cells[from] = NOTHING;
            made++;
            return taken;
        }

        void unmake(int move, int taken) {
            int from = move >> 6;
            int to = move & 63;
            if (isPoint(from) && isPoint(to)) {
                made--;
                cells[from] = cells[to];
                cells[to] = taken;
                tally(taken, 1);
            }
        }

        /** Whether who is to move had a king at first and has none. */
        boolean lacksKing() {
            int mine = toMove();
            return rules != null && rules.crowned[mine] && kings[mine] == 0;
        }

        boolean hasLost() {
            if (rules == null || lacksKing()) {
                return true;
            }
            for (int from = 0; from < rules.points(); from++) {
                if (addMovesFrom(from, found, 0) > 0) {
                    return false;
                }
            }
            return true;
        }

        boolean isLawful(int move) {
            int many = addMovesFrom(move >> 6, found, 0);
            for (int i = 0; i < many; i++) {
                if (found[i] == move) {
                    return true;
                }
            }
            return false;
        }

        /** Lists all LAWFUL MOVES in their order; answers how many. */
        int listMoves(int[] list) {
            int many = 0;
            for (int from = 0; from < MOST_POINTS; from++) {
                many = addMovesFrom(from, list, many);
            }
            return many;
        }

        /** Adds the LAWFUL MOVES from a point behind the first so many of a list; answers how many then. */
        private int addMovesFrom(int from, int[] list, int ahead) {
            if (!isPoint(from) || !isOwn(from) || rules.wide < 1) {
                return ahead;
            }
            int kind = cells[from] & 3;
            int times = rules.runs[kind] ? MOST_TIMES : 1;
            int many = ahead;
            int added = 0;
            tellStone(kind);
            for (int step = 0; step < rules.steps[kind]; step++) {
                int place = kind * MOST_STEPS + step;
                int x = from % rules.wide;
                int y = from / rules.wide;
                for (int far = 1; far <= times; far++) {
                    x += rules.across[place];
                    y += rules.along[place];
                    if (x < 0 || x >= rules.wide || y < 0 || y >= rules.high) {
                        break;
                    }
                    int to = y * rules.wide + x;
                    tellWay(cells[to], y, far);
                    boolean isNew = (added >> to & 1) == 0 && many < list.length;
                    if (isNew && !isOwn(to) && rules.law.worth(facts) != 0) {
                        added |= 1 << to;
                        list[many] = from << 6 | to;
                        many++;
                    }
                    if (cells[to] != NOTHING) {
                        break;
                    }
                }
            }
            return many;
        }

        /** The law of a MOVE by the first way that comes there, whatever is on it. */
        long lawOfMove(int move) {
            int from = move >> 6;
            int to = move & 63;
            if (!isPoint(from) || !isPoint(to) || !isOwn(from) || rules.wide < 1) {
                return Law.ERROR;
            }
            int kind = cells[from] & 3;
            int times = rules.runs[kind] ? MOST_TIMES : 1;
            int x = to % rules.wide - from % rules.wide;
            int y = to / rules.wide - from / rules.wide;
            tellStone(kind);
            for (int step = 0; step < rules.steps[kind]; step++) {
                int place = kind * MOST_STEPS + step;
                for (int far = 1; far <= times; far++) {
                    if (far * rules.across[place] == x && far * rules.along[place] == y) {
                        tellWay(cells[to], to / rules.wide, far);
                        return rules.law.worth(facts);
                    }
                }
            }
            return Law.ERROR;
        }

        /** Tells the facts that are the same for all MOVES of a stone. */
        private void tellStone(int kind) {
            int mine = made & 1;
            facts[KIND] = kind;
            facts[STONES] = stones[mine];
            facts[OTHERS] = stones[1 - mine];
            facts[PLY] = made;
            facts[KING] = rules.kings[kind] ? 1 : 0;
        }

        private void tellWay(int there, int y, int far) {
            int mine = made & 1;
            facts[TAKES] = there >> 2 == 1 - mine ? 1 : 0;
            facts[FAR] = far;
            facts[ROW] = mine == 0 ? y : rules.high - 1 - y;
        }

        /** The first 13 points, 4 bits each; with the rest, no two boards have the same. */
        long lowKey() {
            return key(0, 13);
        }

        long highKey() {
            return key(13, MOST_POINTS);
        }

        private long key(int first, int behind) {
            long key = 0;
            for (int point = first; point < behind; point++) {
                key = key << 4 | cells[point] + 2;
            }
            return key;
        }
    }

    /** The ROW of some letters, with the board behind it and what became of their IFS. */
    private static final class Row {
        private static final int PLAYED = 1;
        private static final int OTHER_AHEAD = -1;
        private static final int OTHER_COUNTED = -2;
        private static final int NOT_LAWFUL = -3;

        int madeAt = NONE;
        int known = 0;
        final Board board = new Board();
        final int[] played = new int[MOST_PLIES];
        final int[] writers = new int[MOST_PLIES];
        int ending = 0;
        final int[] open = new int[MOST_MOVES];
        int choices = 0;
        private final int[] fates = new int[MOST_LETTERS * MOST_IFS];
        private final int[] order = new int[MOST_LETTERS];
        private int ordered = 0;
        private final long[] lowKeys = new long[MOST_PLIES + 1];
        private final long[] highKeys = new long[MOST_PLIES + 1];

        void replay(Rules rules, Letters letters, int bits) {
            known = bits;
            board.begin(rules);
            arrange(letters, rules.late);
            ending = 0;
            for (int ply = 0; ply <= MOST_PLIES; ply++) {
                lowKeys[ply] = board.lowKey();
                highKeys[ply] = board.highKey();
                ending = endNow();
                if (ending != 0 || !playFrom(letters)) {
                    break;
                }
            }
            choices = ending == 0 ? board.listMoves(open) : 0;
        }

        /** Puts the known letters in the order in which their IFS count. */
        private void arrange(Letters letters, boolean late) {
            ordered = 0;
            for (int letter = 0; letter < letters.size; letter++) {
                if ((known >> letter & 1) == 1) {
                    int place = ordered;
                    while (place > 0 && goesAhead(letters, letter, order[place - 1], late)) {
                        order[place] = order[place - 1];
                        place--;
                    }
                    order[place] = letter;
                    ordered++;
                }
            }
        }

        private static boolean goesAhead(Letters letters, int later, int earlier, boolean late) {
            int marks = letters.mark[later] - letters.mark[earlier];
            return late ? marks >= 0 : marks < 0;
        }

        private int endNow() {
            if (board.hasLost()) {
                return 2 - board.toMove();
            }
            return board.made >= MOST_PLIES || timesSeen() >= 3 ? DRAWN : 0;
        }

        private int timesSeen() {
            int times = 0;
            for (int ply = board.made; ply >= 0; ply -= 2) {
                boolean same = lowKeys[ply] == lowKeys[board.made] && highKeys[ply] == highKeys[board.made];
                times += same ? 1 : 0;
            }
            return times;
        }

        /** Plays the first IF that counts and is lawful; false: there is none. */
        private boolean playFrom(Letters letters) {
            int ply = board.made;
            int last = ply > 0 ? played[ply - 1] : NONE;
            int chosen = NONE;
            for (int i = 0; i < ordered; i++) {
                int letter = order[i];
                int first = letters.source[letter] * MOST_IFS;
                for (int which = 0; which < letters.ifsOf(letter); which++) {
                    int place = first + which;
                    if (letters.plyOfIf[place] == ply) {
                        int ahead = letters.aheadOfIf[place];
                        int move = letters.moveOfIf[place];
                        int fate = NOT_LAWFUL;
                        if (ahead != NONE && ahead != last) {
                            fate = OTHER_AHEAD;
                        } else if (chosen != NONE) {
                            fate = OTHER_COUNTED;
                        } else if (board.isLawful(move)) {
                            fate = PLAYED;
                            chosen = move;
                            writers[ply] = letter;
                        }
                        fates[letter * MOST_IFS + which] = fate;
                    }
                }
            }
            if (chosen == NONE) {
                return false;
            }
            played[ply] = chosen;
            board.make(chosen);
            return true;
        }

        /** 1: it was PLAYED, 0: its PLY isn't made, below 0: why it is VOID. */
        int fateOf(Letters letters, int letter, int which) {
            int ply = letters.plyOfIf[letters.source[letter] * MOST_IFS + which];
            return ply < board.made ? fates[letter * MOST_IFS + which] : 0;
        }

        boolean hasMovesOf(Row other) {
            if (board.made != other.board.made) {
                return false;
            }
            for (int ply = 0; ply < board.made; ply++) {
                if (played[ply] != other.played[ply]) {
                    return false;
                }
            }
            return true;
        }
    }

    /** What can follow a board. Each level has a list of MOVES of its own; boards are left as they were. */
    private static final class Search {
        private static final int LEVELS = 6;

        private final int[][] lists = new int[LEVELS][MOST_MOVES];

        /** In how many of the MOVES that are open a MOVE of the other's is LAWFUL behind them. */
        int lawfulBehind(Row now, int move) {
            int many = 0;
            for (int k = 0; k < now.choices; k++) {
                int taken = now.board.make(now.open[k]);
                many += now.board.isLawful(move) ? 1 : 0;
                now.board.unmake(now.open[k], taken);
            }
            return many;
        }

        private int rowsOf(Board board, int n, int level) {
            if (n <= 0) {
                return 1;
            }
            if (level >= LEVELS || board.lacksKing()) {
                return 0;
            }
            int[] list = lists[level];
            int many = board.listMoves(list);
            if (n == 1) {
                return many;
            }
            int rows = 0;
            for (int k = 0; k < many; k++) {
                int taken = board.make(list[k]);
                rows += rowsOf(board, n - 1, level + 1);
                board.unmake(list[k], taken);
            }
            return rows;
        }

        /**
         * Whether who is to move WINS in n, or else is LOST in n. To win is to have one MOVE behind
         * which the other is LOST; to be lost, to have none behind which the other doesn't WIN.
         */
        private boolean decided(Board board, boolean asWin, int n, int level) {
            if (level >= LEVELS || (asWin && n < 1)) {
                return false;
            }
            // nobody WINS in 0, so that LOST in 1 is to have lost
            if (!asWin && n < 2) {
                return board.hasLost();
            }
            if (board.lacksKing()) {
                return !asWin;
            }
            int[] list = lists[level];
            int many = board.listMoves(list);
            for (int k = 0; k < many; k++) {
                int taken = board.make(list[k]);
                boolean other = decided(board, !asWin, n - 1, level + 1);
                board.unmake(list[k], taken);
                if (other == asWin) {
                    return asWin;
                }
            }
            return !asWin;
        }

        boolean wins(Board board, int n) {
            return decided(board, true, n, 0);
        }

        /** The first MOVE behind which the other doesn't WIN in n; NOTHING: there is none. */
        int firstSafe(Board board, int n) {
            if (board.lacksKing()) {
                return NOTHING;
            }
            int[] list = lists[0];
            int many = board.listMoves(list);
            for (int k = 0; k < many; k++) {
                int taken = board.make(list[k]);
                boolean bad = decided(board, true, n, 1);
                board.unmake(list[k], taken);
                if (!bad) {
                    return list[k];
                }
            }
            return NOTHING;
        }

        int safeBehind(Board board, int move, int n) {
            int taken = board.make(move);
            int answer = firstSafe(board, n);
            board.unmake(move, taken);
            return answer;
        }

        /** The first open MOVE to which there is no safe one; NOTHING: there is none such. */
        int refutation(Row now, int n) {
            for (int k = 0; k < now.choices; k++) {
                int taken = now.board.make(now.open[k]);
                int answer = firstSafe(now.board, n);
                now.board.unmake(now.open[k], taken);
                if (answer == NOTHING) {
                    return now.open[k];
                }
            }
            return NOTHING;
        }
    }
}
