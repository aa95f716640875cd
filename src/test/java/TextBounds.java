/** The bounds of the text: part 1 of the terms, promises 1 to 6. */
final class TextBounds {
    private static final String KIND = "kind k leaps 1 0;";
    private static final String[] WORDS = {"board", "kind", "leaps", "runs", "king", "stone", "law", "post", "days", "late",
        "or", "and", "not", "takes", "far", "row", "stones", "others", "ply"};
    private static final String[] NAMES = {"takes", "far", "row", "kind", "stones", "others", "ply", "king"};
    private static final String[] COMPARISONS = {"<", "<=", "=", "<>", ">=", ">"};

    private TextBounds() { }

    private static void terms(String words) {
        Bounds.sentence(Bounds.TERMS, words);
    }

    /** An object that has of all: a text refused must leave it so. */
    private static Game rich() {
        Game x = Game.told("board 4 5;kind k leaps 1 0 0 1 king;kind r runs 1 0;stone k 0 0 0;stone k 1 3 3;law ply < 9;post 1 3;days 7;late;");
        x.letter(0, 1, 4, -1);
        x.when(0, -1, 1);
        x.keep();
        x.letter(1, 5, 6, 0);
        x.when(1, 1, 64 * 15 + 19);
        x.log(0, 2);
        x.day(9);
        return x;
    }

    /** A text with a FAULT of this number where the sign ^ stands in it. */
    private static void fault(String marked, int number) {
        int place = marked.indexOf('^');
        fault(marked.replace("^", ""), number, place);
    }

    private static void fault(String text, int number, int place) {
        Game x = rich();
        Bounds.due("text of '" + text + "'", x.tell(text), Bounds.NONE);
        Bounds.due("fault(0) of '" + text + "'", x.fault(0), number);
        Bounds.due("fault(1) of '" + text + "'", x.fault(1), place);
        int[] counts = {2, 2, 4, 5, 3, 2, 1, 9, 7};
        for (int what = 0; what < counts.length; what++) {
            Bounds.due("count(" + what + ") stays behind '" + text + "'", x.count(what), counts[what]);
        }
    }

    private static Game good(String text, int lines) {
        Game x = rich();
        Bounds.due("text of '" + text + "'", x.tell(text), lines);
        Bounds.due("fault(0) of '" + text + "'", x.fault(0), 0);
        Bounds.due("fault(1) of '" + text + "'", x.fault(1), Bounds.NONE);
        return x;
    }

    private static void worth(String law, long value) {
        Game x = good("kind a leaps 1 0;stone a 0 0 0;law " + law + ";", 3);
        Bounds.due("law(0, 1) of " + law, x.law(0, 1), value);
    }

    private static void texts() {
        terms("A TEXT: { LINE ';' }.");
        good("", 0);
        good("  \n", 0);
        good("late;", 1);
        good(" late ;\n", 1);
        good("late;days 1;", 2);
        fault("late^", 1);
        fault("late  ^", 1);
        fault("^;", 1);
        fault("late;^;", 1);
        fault("late ^days 1;", 1);
    }

    /** A LINE of these tokens: each shorter row of them is one only if it has so many tokens. */
    private static void line(String ahead, String tokens, int shorterToo) {
        String[] all = tokens.split(" ");
        StringBuilder row = new StringBuilder(ahead);
        int lines = ahead.isEmpty() ? 0 : 1;
        for (int many = 1; many <= all.length; many++) {
            row.append(' ').append(all[many - 1]);
            fault(row + "^", 1);
            if (many == all.length || many == shorterToo) {
                good(row + ";", lines + 1);
            } else {
                fault(row + "^;", 1);
            }
        }
        fault(row + " ^nosuch;", 1);
        fault(row + " ^(;", 1);
    }

    private static void lines() {
        terms("LINE: board N N | kind W ( leaps | runs ) O O { O O } [ king ] | stone W N N N | law E | post N N | days N | late.");
        line("", "board 4 5", 0);
        line("", "kind q leaps 1 0 0 1", 5);
        line("", "kind q runs 1 0 king", 5);
        line("", "kind q runs - 1 - 1 king", 7);
        line(KIND, "stone k 1 2 0", 0);
        line("", "law 7", 0);
        line("", "post 1 2", 0);
        line("", "days 9", 0);
        line("", "late", 0);
        fault("^king;", 1);
        fault("^leaps 1 0;", 1);
        fault("^k;", 1);
        fault("^3;", 1);
        fault("kind q ^king 1 0;", 1);
        fault("kind q ^1 0;", 1);
        fault("kind q leaps ^king;", 1);
        fault("kind q leaps 1 0 king ^1 0;", 1);
        fault("kind q leaps 1 0 king ^king;", 1);
    }

    private static void offsets() {
        terms("O: [ - ] N.");
        Game x = good("kind q leaps -1 0 - 0 -1;stone q 0 1 1;", 2);
        Bounds.due("move(0, 0)", x.move(0, 0), 64 * 4 + 3);
        Bounds.due("move(0, 1)", x.move(0, 1), 64 * 4 + 1);
        fault("kind q leaps -^-1 0;", 1);
        fault("kind q leaps 1 -^-1;", 1);
        fault("kind q leaps ^+1 0;", 1);
        fault("kind q leaps 1 -^", 1);
        fault("board ^-3 3;", 1);
        fault("board 3 ^-3;", 1);
        fault(KIND + "stone k ^-0 0 0;", 1);
        fault(KIND + "stone k 0 ^-0 0;", 1);
        fault(KIND + "stone k 0 0 ^-0;", 1);
        fault("post ^-0 3;", 1);
        fault("post 0 ^-3;", 1);
        fault("days ^-0;", 1);
    }

    private static void words() {
        terms("Words: small letters in a row; W: one of 1 .. 6 letters, none of those of the language; N: digits.");
        good("kind a leaps 1 0;kind z leaps 1 0;kind azazaz leaps 1 0;", 3);
        fault("kind ^azazaza leaps 1 0;", 1);
        fault(KIND + "stone ^kkkkkkk 0 0 0;", 1);
        fault("^lateday;", 1);
        fault("kind ^1 leaps 1 0;", 1);
        fault("kind ^K leaps 1 0;", 1);
        fault("kind k^K leaps 1 0;", 1);
        fault("kind ^{ leaps 1 0;", 1);
        fault("kind ^` leaps 1 0;", 1);
        for (String word : WORDS) {
            fault("kind ^" + word + " leaps 1 0;", 1);
            fault(KIND + "stone ^" + word + " 0 0 0;", 1);
        }
        good("kind kings leaps 1 0;kind boar leaps 1 0;kind no leaps 1 0;kind lawn leaps 1 0;", 4);
        good("board2 5;kind k leaps1 0;", 2);
        fault("board 2^a 5;", 1);
        good("days 0000000000000000000000000000000000000999;", 1);
        fault("days ^:;", 1);
        fault("days ^/;", 1);
    }

    private static void blanks() {
        terms("Blanks 10, 32.");
        for (int sign = 0; sign < 256; sign++) {
            String text = "late" + (char) sign + ";";
            if (sign == 10 || sign == 32) {
                good(text, 1);
                good((char) sign + text + (char) sign, 1);
            } else if (sign >= 'a' && sign <= 'z') {
                fault(text, 1, 0);
            } else {
                fault(text, 1, sign == ';' ? 5 : 4);
            }
        }
    }

    private static void expressions() {
        terms("E: A { or A }. A: B { and B }. B: not B | C.");
        worth("0 or 0 or 3", 1);
        worth("1 or 0 and 0", 1);
        worth("0 and 0 or 1", 1);
        worth("2 and 3 and 0", 0);
        worth("not 0 and 0", 0);
        worth("not 1 or 1", 1);
        worth("not not 5", 1);
        worth("0 or not 0", 1);
        worth("1 and not 0", 1);
        worth("not 0 > 1", 1);
        worth("not 5 + 1", 0);
        fault("law ^;", 1);
        fault("law ^or 1;", 1);
        fault("law 1 or ^;", 1);
        fault("law 1 and ^or 1;", 1);
        fault("law not ^;", 1);
        fault("law 1 ^not 1;", 1);
        fault("law 1 < ^not 1;", 1);
        fault("law 1 + ^not 1;", 1);
        fault("law 1 * ^not 1;", 1);
        terms("C: S [ ( < | <= | = | <> | >= | > ) S ].");
        for (String one : COMPARISONS) {
            fault("law 1 " + one + " ^;", 1);
            fault("law ^" + one + " 1;", 1);
            for (String two : COMPARISONS) {
                fault("law 1 " + one + " 2 ^" + two + " 3;", 1);
                good("law (1 " + one + " 2) " + two + " 3 and 1 " + one + " (2 " + two + " 3);", 1);
            }
        }
        terms("S: T { ( + | - ) T }. T: P { ( * | / ) P }.");
        worth("9 - 4 - 3", 2);
        worth("9 - 4 + 3", 8);
        worth("9 / 2 * 2", 8);
        worth("2 * 9 / 4", 4);
        worth("2 + 3 * 4", 14);
        worth("2 * 3 + 4", 10);
        worth("9 - 8 / 4", 7);
        fault("law ^-1;", 1);
        fault("law ^+1;", 1);
        fault("law 1 * ^-1;", 1);
        fault("law 1 - ^-1;", 1);
        fault("law 1 + ^;", 1);
        fault("law 1 / ^;", 1);
    }

    private static void operands() {
        terms("P: N | NAME | '(' E ')'; N of E 0 .. 9999.");
        worth("0", 0);
        worth("9999", 9999);
        worth("0009999", 9999);
        worth("(0 or 2) + (not 0) * (3 < 4)", 2);
        fault("law ^10000;", 2);
        fault("law 1 + ^00010000;", 2);
        fault("law ^4294967296;", 2);
        fault("law ^18446744073709551616;", 2);
        fault("law (^);", 1);
        fault("law (1^;", 1);
        fault("law 1^);", 1);
        fault("law (1)^);", 1);
        fault("law 1 ^(1);", 1);
        fault("law (1) ^2;", 1);
        fault("law 1 ^2;", 1);
        terms("NAME: takes far row kind stones others ply king.");
        for (String word : WORDS) {
            boolean name = false;
            for (String one : NAMES) {
                name = name || one.equals(word);
            }
            if (name) {
                good("law " + word + ";", 1);
                fault("law 1 ^" + word + ";", 1);
            } else if (!word.equals("not")) {
                fault("law ^" + word + ";", 1);
            }
        }
        fault("law ^k;", 1);
        fault("law ^take;", 1);
    }

    private static void doubleSigns() {
        terms("A = (or > behind <) right behind < or > belongs to it.");
        worth("2 <= 2", 1);
        worth("2 >= 2", 1);
        worth("2 <> 2", 0);
        worth("2<=1", 0);
        worth("1>=2", 0);
        worth("1<>2", 1);
        fault("law 1 < ^= 2;", 1);
        fault("law 1 > ^= 2;", 1);
        fault("law 1 < ^> 2;", 1);
        fault("law 1 >^> 2;", 1);
        fault("law 1 >^< 2;", 1);
        fault("law 1 <^< 2;", 1);
        fault("law 1 =^> 2;", 1);
        fault("law 1 =^< 2;", 1);
        fault("law 1 =^= 2;", 1);
        fault("law 1 <=^> 2;", 1);
        fault("law 1 <>^= 2;", 1);
        fault("law 1 >=^= 2;", 1);
        Bounds.due("count(4): it is one sign", good("law 1<=2;", 1).count(4), 3);
        Game cut = new Game();
        cut.put("law 1 <= 2;");
        Bounds.due("text(7), where only < is left", cut.text(7), Bounds.NONE);
        Bounds.due("fault(1)", cut.fault(1), 7);
    }

    private static void boards() {
        terms("board: WIDE 2 .. 5, HIGH 2 .. 5 (3 and 3 without);");
        for (int wide = 0; wide <= 7; wide++) {
            for (int high = 0; high <= 7; high++) {
                boolean on = wide >= 2 && wide <= 5;
                if (on && high >= 2 && high <= 5) {
                    Game x = good("board " + wide + " " + high + ";", 1);
                    Bounds.due("count(2)", x.count(2), wide);
                    Bounds.due("count(3)", x.count(3), high);
                } else {
                    fault("board " + (on ? wide + " ^" + high : "^" + wide + " " + high) + ";", 2);
                }
            }
        }
        Game without = good("late;", 1);
        Bounds.due("count(2) without", without.count(2), 3);
        Bounds.due("count(3) without", without.count(3), 3);
        fault("board ^4294967298 3;", 2);
        terms("POINTS are numbered from 0, y times WIDE and x.");
        Game x = good("board 4 2;" + KIND + "stone k 0 0 0;stone k 0 3 0;stone k 1 0 1;stone k 1 3 1;", 6);
        int[] there = {0, -2, -2, 0, 4, -2, -2, 4, Bounds.NONE};
        for (int point = 0; point < there.length; point++) {
            Bounds.due("at(0, " + point + ")", x.at(0, point), there[point]);
        }
        Bounds.due("at(0, -1)", x.at(0, -1), Bounds.NONE);
        Bounds.due("at(0, 24) of the largest", Game.told("board 5 5;").at(0, 24), -2);
        Bounds.due("at(0, 25) of the largest", Game.told("board 5 5;").at(0, 25), Bounds.NONE);
        Bounds.due("at(0, 3) of the least", Game.told("board 2 2;").at(0, 3), -2);
        Bounds.due("at(0, 4) of the least", Game.told("board 2 2;").at(0, 4), Bounds.NONE);
    }

    private static void kinds() {
        terms("KINDS, at most 4: 1 .. 8 steps by x and by y, -4 .. 4 each, not both 0;");
        Game x = good(fourKinds(), 4);
        Bounds.due("count(0)", x.count(0), 4);
        fault(fourKinds() + "^kind e leaps 1 0;", 2);
        fault("kind k leaps ^;", 1);
        Bounds.due("look(0, 1) of 1 step", good(KIND, 1).look(0, 1), 1);
        String eight = "kind k leaps 1 0 1 1 0 1 -1 1 -1 0 -1 -1 0 -1 1 -1";
        Bounds.due("look(0, 1) of 8 steps", good(eight + ";", 1).look(0, 1), 8);
        Bounds.due("look(0, 2) of 8 steps", good(eight + " king;", 1).look(0, 2), 1);
        fault(eight + " ^2 2;", 2);
        for (int v = 0; v <= 6; v++) {
            for (String sign : new String[] {"", "-"}) {
                if (v <= 4) {
                    good("kind k leaps " + sign + v + " 1;", 1);
                    good("kind k leaps 1 " + sign + v + ";", 1);
                } else {
                    fault("kind k leaps " + sign + "^" + v + " 1;", 2);
                    fault("kind k leaps 1 " + sign + "^" + v + ";", 2);
                }
            }
        }
        good("kind k leaps 4 4 -4 -4 0 4 -4 0;", 1);
        fault("kind k leaps 0 ^0;", 5);
        fourTimesEight();
    }

    /** Each of four KINDS has eight steps, and goes by those alone: no two KINDS begin with the same one. */
    private static void fourTimesEight() {
        int[][] around = {{1, 0}, {1, 1}, {0, 1}, {-1, 1}, {-1, 0}, {-1, -1}, {0, -1}, {1, -1}};
        int[][] far = {{2, 1}, {1, 2}, {-1, 2}, {-2, 1}, {-2, -1}, {-1, -2}, {1, -2}, {2, -1}};
        int[][] straight = {{2, 0}, {0, 2}, {-2, 0}, {0, -2}, {2, 2}, {-2, 2}, {-2, -2}, {2, -2}};
        int[][] mixed = {{0, -1}, {2, 2}, {1, -2}, {-2, 0}, {1, 1}, {-1, 2}, {0, 2}, {-1, -1}};
        int[][][] all = {around, far, straight, mixed};
        StringBuilder kinds = new StringBuilder("board 5 5;");
        for (int kind = 0; kind < 4; kind++) {
            kinds.append("kind ").append((char) ('a' + kind)).append(" leaps");
            for (int[] step : all[kind]) {
                kinds.append(' ').append(step[0]).append(' ').append(step[1]);
            }
            kinds.append(';');
        }
        for (int kind = 0; kind < 4; kind++) {
            Game x = good(kinds + "stone " + (char) ('a' + kind) + " 0 2 2;", 6);
            Bounds.due("look(" + kind + ", 1)", x.look(kind, 1), 8);
            Bounds.due("moves(0) of kind " + kind, x.moves(0), 8);
            for (int k = 0; k < 8; k++) {
                int to = 12 + all[kind][k][0] + 5 * all[kind][k][1];
                Bounds.due("move(0, " + k + ") of kind " + kind, x.move(0, k), 64 * 12 + to);
            }
        }
        Game one = good("board 5 5;kind a leaps 1 0;kind b leaps 0 1;kind c leaps -1 0;kind d leaps 0 -1;stone d 0 2 2;stone a 0 0 0;", 7);
        Bounds.due("moves(0) of two with a step each", one.moves(0), 2);
    }

    private static String fourKinds() {
        return "kind a leaps 1 0;kind b runs 1 0;kind c leaps 1 0;kind d leaps 1 0;";
    }

    private static String eightStones() {
        StringBuilder s = new StringBuilder(KIND);
        for (int i = 0; i < 8; i++) {
            s.append("stone k ").append(i % 2).append(' ').append(i % 3).append(' ').append(i / 3).append(';');
        }
        return s.toString();
    }

    private static void stones() {
        terms("STONES, at most 8: of a KIND, a player 0 or 1, x, y (on the board told last).");
        Game x = good(eightStones(), 9);
        Bounds.due("count(1)", x.count(1), 8);
        for (int point = 0; point < 9; point++) {
            Bounds.due("at(0, " + point + ")", x.at(0, point), point == 8 ? -2 : point % 2 * 4);
        }
        fault(eightStones() + "^stone k 0 2 2;", 2);
        fault(KIND + "stone k ^2 0 0;", 2);
        good(KIND + "stone k 0 2 2;stone k 1 0 0;", 3);
        fault(KIND + "stone k 0 ^3 0;", 2);
        fault(KIND + "stone k 0 0 ^3;", 2);
        good("board 5 2;" + KIND + "stone k 0 4 1;", 3);
        fault("board 5 2;" + KIND + "stone k 0 ^5 1;", 2);
        fault("board 5 2;" + KIND + "stone k 0 4 ^2;", 2);
        good(KIND + "board 2 5;stone k 0 1 4;", 3);
        fault(KIND + "board 2 5;stone k 0 ^2 4;", 2);
        fault(KIND + "board 2 5;stone k 0 1 ^5;", 2);
        terms("All numbered as they come; KINDS have names.");
        Game named = good(fourKinds() + "stone c 0 0 0;stone a 1 1 0;stone d 0 2 0;stone b 1 0 1;", 8);
        int[] kinds = {2, 4, 3, 5};
        for (int point = 0; point < 4; point++) {
            Bounds.due("at(0, " + point + ")", named.at(0, point), kinds[point]);
            Bounds.due("named() of the kind " + point, named.named(point + 1 << 25), point);
        }
    }

    private static void postAndDays() {
        terms("post: a letter takes so many days at least (0 .. 30), at most (to 60, not below it) (4 and 11 without).");
        good("post 0 0;", 1);
        good("post 0 60;", 1);
        good("post 30 30;", 1);
        good("post 30 60;", 1);
        good("post 7 8;", 1);
        fault("post ^31 31;", 2);
        fault("post ^31 60;", 2);
        fault("post 0 ^61;", 2);
        fault("post 30 ^61;", 2);
        fault("post 30 ^29;", 2);
        fault("post 1 ^0;", 2);
        fault("post 8 ^7;", 2);
        int[][] posts = {{0, 0}, {30, 60}, {4, 11}, {9, 9}};
        for (int[] p : posts) {
            boolean without = p[0] == 4;
            for (int days = Math.max(0, p[0] - 1); days <= p[1] + 1; days++) {
                Game x = good(without ? "" : "post " + p[0] + " " + p[1] + ";", without ? 0 : 1);
                x.letter(0, 100, 100 + days, -1);
                Bounds.due("forged() of " + days + " days by " + p[0] + " to " + p[1], x.forged(),
                    days < p[0] || days > p[1] ? 1 : 0);
            }
        }
        terms("days: each player's clock, 0 .. 999 (60 without).");
        Bounds.due("count(8) of 0", good("days 0;", 1).count(8), 0);
        Bounds.due("count(8) of 999", good("days 999;", 1).count(8), 999);
        Bounds.due("count(8) without", good("late;", 1).count(8), 60);
        fault("days ^1000;", 2);
        for (int player = 0; player < 2; player++) {
            for (int mark = 60; mark <= 61; mark++) {
                Game x = good("late;", 1);
                x.letter(player, mark, mark, -1);
                Bounds.due("clock(" + player + ", 1) of " + mark, x.clock(player, 1), mark - 60);
            }
        }
    }

    private static void lateAndLaw() {
        terms("late: of two letters of one player that tell a move each the later written one counts (without: the earlier).");
        for (int late = 0; late < 2; late++) {
            Game x = Game.told("kind k leaps 1 0 0 1;stone k 0 0 0;stone k 1 1 1;" + (late == 1 ? "late;" : ""));
            x.letter(0, 5, 9, -1);
            x.when(0, -1, 1);
            x.letter(0, 6, 7, -1);
            x.when(0, -1, 3);
            Bounds.due("row(0, 0), late " + late, x.row(0, 0), late == 1 ? 3 : 1);
            Bounds.due("by(0, 0), late " + late, x.by(0, 0), late);
        }
        terms("law: of what is lawful besides.");
        String two = "kind k leaps 1 0 0 1;stone k 0 0 0;";
        Bounds.due("moves(0) without", Game.told(two).moves(0), 2);
        Bounds.due("moves(0) of law row", Game.told(two + "law row;").moves(0), 1);
        Bounds.due("moves(0) of law 0", Game.told(two + "law 0;").moves(0), 0);
    }

    private static void firstFaults() {
        terms("FAULTS, the first along the text (of one place the least), with its place:");
        fault("^x;board 9 9;", 1);
        fault("board ^9 9;x;", 2);
        fault("board 3 3;^board 9 9;", 3);
        fault("stone ^k 9 9 9;", 4);
        fault("kind k leaps 0 ^0;kind k;", 5);
        fault(fourKinds() + "^kind a;", 2);
        fault(eightStones() + "^stone x 0 0 0;", 2);
        fault("kind k leaps 1 0 1 1 0 1 -1 1 -1 0 -1 -1 0 -1 1 -1 ^0 0;", 2);
        fault("kind k leaps 1 0 1 1 0 1 -1 1 -1 0 -1 -1 0 -1 1 -1 ^- x;", 2);
        fault("law ((((((((1 ^(1;", 1);
        fault("law not " + sum(32) + " ^1;", 1);
        fault("law " + sum(32) + "+^*1;", 1);
        fault("law " + sum(32) + "+^not 1;", 1);
        fault("law not " + sum(31) + "<1^<1;", 1);
    }

    /** So many ones, with a sign between each two: one KNOT less than twice as many. */
    private static String sum(int ones) {
        return "1" + "+1".repeat(ones - 1);
    }

    private static void tokens() {
        terms("1 a TOKEN that is none (a word of more than 6 letters, too) or can't stand there (the length, if more must come).");
        fault("board 3 ^?;", 1);
        fault("^!", 1);
        fault("board 3 3 ^, late;", 1);
        fault("days ^overall;", 1);
        fault("law ^overall;", 1);
        fault("late ^overall", 1);
        fault("board ^;", 1);
        fault("board ^late;", 1);
        fault("^boards 3 3;", 1);
        fault("law 1 -^", 1);
        fault("board^", 1);
        fault("board ^", 1);
        fault("board 3 \n ^", 1);
        fault("kind^", 1);
        fault("kind k^", 1);
        fault("kind k leaps^", 1);
        fault("law (1^", 1);
        fault("law 1 or^", 1);
        // a number stands for no sign, whatever the number of that sign's byte
        for (int sign : new int[] {40, 41, 42, 43, 45, 47, 59, 60, 61, 62, 255, 256, 257, 258, 259}) {
            fault("law 1 ^" + sign + " 2;", 1);
            fault("law (1 ^" + sign + ";", 1);
            fault("late ^" + sign + ";", 1);
            fault("^" + sign + " late;", 1);
            fault("kind k leaps ^" + sign + " 1 0;", 2);
            fault("kind k leaps 1 0 ^" + sign + " 1;", 2);
            Bounds.due("law(0, 1) of " + sign, good("kind a leaps 1 0;stone a 0 0 0;law " + sign + ";", 3).law(0, 1), sign);
        }
    }

    private static void tooMuch() {
        terms("2 too much (at it): a number beyond what is said, a fifth kind, ninth stone (at the word of the LINE), "
            + "a ninth step (at its first number or -), x or y beyond the board, a ninth '(' open, "
            + "a 65th KNOT (N, NAMES, signs, not, and, or: one each).");
        fault("days ^99999999999999999999;", 2);
        fault(fourKinds() + " ^kind", 2);
        fault(eightStones() + " ^stone", 2);
        String eight = "kind k runs 1 0 1 1 0 1 -1 1 -1 0 -1 -1 0 -1 1 -1 ";
        fault(eight + "^1", 2);
        fault(eight + "^-1 1;", 2);
        fault(eight + "^9 9;", 2);
        good("law ((((((((1))))))));", 1);
        fault("law ((((((((^(1)))))))));", 2);
        good("law ((((((((1))))))))+((((((((1))))))));", 1);
        good("law (1)+(1)+(1)+(1)+(1)+(1)+(1)+(1)+(1)+(1);", 1);
        fault("law (1)+((((((((^(", 2);
        good("law " + "(".repeat(8) + "1)+(1" + ")".repeat(8) + ";", 1);
        fault("law " + "(".repeat(8) + "1)+(^(1", 2);
        knots();
    }

    private static void knots() {
        Bounds.due("count(4) of 64", good("law not " + sum(32) + ";", 1).count(4), 64);
        Bounds.due("count(4): brackets are none", good("law not ((" + sum(32) + "));", 1).count(4), 64);
        Bounds.due("count(4) of 64 numbers, names and words",
            good("law not row and 1 or ply <> 2 and " + sum(28) + ";", 1).count(4), 64);
        for (String sign : new String[] {"+1", "-1", "*1", "/1", "<1", "<=1", "=1", "<>1", ">=1", ">1", " and 1", " or 1"}) {
            fault("law not " + sum(32) + (sign.startsWith(" ") ? " ^" + sign.trim() : "^" + sign) + ";", 2);
            String ahead = "law " + sum(32) + sign.replace("1", "");
            fault(ahead + " ^1;", 2);
            fault(ahead + " ^row;", 2);
            fault(ahead + " (^1;", 2);
        }
        fault("law " + sum(32) + " and ^not 1;", 2);
        fault("law " + sum(32) + " or ^not 1;", 2);
        fault("law " + "not ".repeat(64) + "^1;", 2);
        fault("law " + "not ".repeat(64) + "^not 1;", 2);
        Bounds.due("count(4) of 63 times not", good("law " + "not ".repeat(63) + "1;", 1).count(4), 64);
    }

    private static void toldAlready() {
        terms("3 told already: a KIND's name (at W), board, law, post, days, late (at the word); board also behind a stone.");
        fault(KIND + "kind ^k runs 1 0;", 3);
        fault("kind abcdef leaps 1 0;kind ^abcdef leaps 1 0;", 3);
        good("kind abcdef leaps 1 0;kind abcde leaps 1 0;kind a leaps 1 0;kind bcdef leaps 1 0;", 4);
        fault("board 3 3;^board 3 3;", 3);
        fault("law 1;^law 1;", 3);
        fault("post 1 2;^post 1 2;", 3);
        fault("days 3;^days 3;", 3);
        fault("late;^late;", 3);
        fault("late;days 1;post 0 0;law 1;board 2 2;^days 2;", 3);
        good("late;days 1;post 0 0;law 1;board 2 2;", 5);
        fault(KIND + "stone k 0 0 0;^board 3 3;", 3);
        fault("board 3 3;" + KIND + "stone k 0 0 0;^board 3 3;", 3);
        good(KIND + "board 3 3;stone k 0 0 0;", 3);
        terms("4 a KIND that isn't told ahead (at W).");
        fault("stone ^k 0 0 0;" + KIND, 4);
        fault(KIND + "stone ^kk 0 0 0;", 4);
        fault(KIND + "stone ^a 0 0 0;kind a leaps 1 0;", 4);
        fault("kind kk leaps 1 0;stone ^k 0 0 0;", 4);
        fault("stone ^r 0 0 0;", 4);
        terms("5 a POINT with a stone (at y); a step 0 0 (at the second's number).");
        fault(KIND + "stone k 0 1 2;stone k 1 1 ^2;", 5);
        fault(KIND + "stone k 0 1 2;stone k 0 2 2;stone k 0 1 ^2;", 5);
        good(KIND + "stone k 0 1 2;stone k 1 2 1;", 3);
        fault("kind k leaps -0 -^0;", 5);
        fault("kind k leaps 1 0 00 ^00 1 1;", 5);
        good("kind k leaps 0 1 1 0;", 1);
    }

    private static void newObject() {
        Bounds.promise(1, "A TEXT without LINES: 3 by 3 POINTS, no stones; DAY 0; an empty TAPE.");
        Game x = new Game();
        int[] counts = {0, 0, 3, 3, 0, 0, 0, 0, 60};
        for (int what = 0; what < counts.length; what++) {
            Bounds.due("count(" + what + ")", x.count(what), counts[what]);
        }
        for (int point = 0; point < 9; point++) {
            Bounds.due("at(0, " + point + ")", x.at(0, point), -2);
        }
        Bounds.due("at(0, 9)", x.at(0, 9), Bounds.NONE);
        Bounds.due("text(1)", x.text(1), -2);
        Bounds.due("feed()", x.feed(0, 0, 0, 0, 0), 20);
        Game told = new Game();
        Bounds.due("text(0)", told.text(0), 0);
        Bounds.same("a text without LINES", told, new Game());
    }

    private static Game full() {
        Game x = rich();
        for (int i = 0; i < 35; i++) {
            x.put("late; days 5; late ;");
        }
        return x;
    }

    private static void feed() {
        Bounds.promise(2, "Twenty bytes come behind the TAPE, four of each number, the highest first: how many it has;");
        Game x = new Game();
        Bounds.due("feed()", x.feed(0x20206461, 0x79732031, 0x32333b6c, 0x6174653b, 0x706f7374), 20);
        Bounds.due("feed()", x.feed(0x2031370a, 0x35393b20, 0xff808081, -1, Bounds.MIN), 40);
        Bounds.due("text(28)", x.text(28), 3);
        Bounds.due("count(8)", x.count(8), 123);
        for (int from = 0; from < 20; from++) {
            StringBuilder blanks = new StringBuilder(" ".repeat(20));
            blanks.setCharAt(from, (char) 255);
            Bounds.due("feed()", x.put(blanks.toString()), 20);
            Bounds.due("text(20)", x.text(20), Bounds.NONE);
            Bounds.due("fault(1) of byte 255 at " + from, x.fault(1), from);
        }
        Bounds.promise(2, "NONE, and none come, if it would have more than 700.");
        Game y = new Game();
        for (int i = 1; i <= 35; i++) {
            Bounds.due("feed() " + i, y.put(i < 35 ? " " : "               late;"), 20 * i);
        }
        Bounds.due("feed() 36", y.put("days 1;"), Bounds.NONE);
        Bounds.due("feed() 37", y.put("days 1;"), Bounds.NONE);
        Bounds.due("text(701)", y.text(701), -2);
        Bounds.due("text(700)", y.text(700), 1);
        Bounds.due("feed() behind it", y.put("days 1;"), 20);
        Bounds.refused("feed() of a full TAPE", TextBounds::full, g -> g.feed(0, 0, 0, 0, 0), Bounds.NONE);
    }

    private static void text() {
        Bounds.promise(3, "The TAPE's first n bytes (it is empty then) are the TEXT (no letters, LOGS, IMAGE, DAY 0 then): how many LINES;");
        Game x = rich();
        x.put("late;days 5;board 2 4;");
        Bounds.due("text(12)", x.text(12), 2);
        int[] counts = {0, 0, 3, 3, 0, 0, 0, 0, 5};
        for (int what = 0; what < counts.length; what++) {
            Bounds.due("count(" + what + ")", x.count(what), counts[what]);
        }
        Bounds.due("back()", x.back(), Bounds.NONE);
        Bounds.due("text(1): the rest of the TAPE is gone", x.text(1), -2);
        Game none = rich();
        none.put("late;");
        Bounds.due("text(0)", none.text(0), 0);
        Bounds.same("text(0) of a TAPE that isn't empty", none, new Game());
        left();
        cut();
        Bounds.promise(3, "NONE with a FAULT, all stays;");
        for (String wrong : new String[] {"board 2 2;late;days 1;law 1;late;", "kind k runs 1 1 king;stone k 0 0 0;x", "post 0 0;post 0 0;"}) {
            Game faulty = rich();
            Bounds.due("text of " + wrong, faulty.tell(wrong), Bounds.NONE);
            Bounds.same("text of " + wrong, faulty, rich());
        }
        Bounds.promise(3, "-2, and the TAPE stays: there are not so many, n is below 0.");
        for (int n : new int[] {-1, Bounds.MIN, 21, 700, Bounds.MAX}) {
            Bounds.refused("text(" + n + ") of 20 bytes", TextBounds::richWithTape, g -> g.text(n), -2);
        }
        Game tape = richWithTape();
        Bounds.due("text(21)", tape.text(21), -2);
        Bounds.due("text(20)", tape.text(20), 2);
        Bounds.due("text(1) of an empty TAPE", tape.text(1), -2);
        Bounds.due("text(0) of an empty TAPE", tape.text(0), 0);
        Bounds.due("text(-1) of an empty TAPE", tape.text(-1), -2);
    }

    /** Three texts in one object, and of the first two nothing may be left: each has more of all than the third. */
    private static void left() {
        String full = "board 5 5;kind a runs 1 0 1 1 0 1 king;kind b leaps 1 0 1 1 0 1 -1 1 -1 0 -1 -1 0 -1 1 -1 king;kind c runs 0 1;"
            + "kind d runs 0 1 king;stone a 0 0 0;stone b 1 4 4;stone c 0 1 0;stone d 1 3 4;law not (takes and far > 2);post 9 50;days 3;late;";
        String[] thirds = {"", "board 2 4;", "kind a leaps 1 0;stone a 0 0 0;", "kind a leaps 1 0;kind b leaps 1 0 0 1;stone b 0 0 0;stone a 1 1 1;",
            "kind k leaps 1 0 king;kind a leaps 1 0 0 1;stone a 0 0 0;stone k 1 0 1;",
            "kind k leaps 1 0 0 1 king;kind a leaps 1 0;stone k 0 0 0;stone a 1 0 2;", "law 1 + 2;kind a runs 0 1;stone a 0 1 0;"};
        for (String third : thirds) {
            for (String second : new String[] {full, full + "x", full + "law 1;", full + "stone a 0 2 ?"}) {
                Game x = Game.told(full);
                x.tell(second);
                x.letter(1, 9, 9, -1);
                x.when(1, -1, 1);
                x.tell(third);
                Bounds.same("'" + third + "' behind two other texts", written(x), written(Game.told(third)));
            }
        }
        for (String wrong : new String[] {"law ((1 +;", "law (((((((((1;", "law 1 < (2", "law not not (not 1 ?", "law 1 or 2 and not (3 < 4 < 5);"}) {
            Game x = Game.told(KIND);
            Bounds.due("text of " + wrong, x.tell(wrong), Bounds.NONE);
            Bounds.due("text behind " + wrong, x.tell("kind a leaps 1 0;stone a 0 0 0;law 2 + 3 * (4 - 1);"), 3);
            Bounds.due("law(0, 1) behind " + wrong, x.law(0, 1), 11);
            Bounds.due("count(4) behind " + wrong, x.count(4), 7);
            Bounds.due("text with a ) too much behind " + wrong, x.tell("law 1);"), Bounds.NONE);
        }
    }

    /** Three letters, two of which tell a move each; by the post of 4 to 11 days only the last one isn't true. */
    private static Game written(Game x) {
        x.letter(0, 5, 10, -1);
        Bounds.due("post(0, 4): the letter has no IFS yet", x.post(0, 4), 0);
        x.when(0, -1, x.move(0, 0));
        x.letter(0, 6, 17, -1);
        x.when(0, -1, x.move(3, 1));
        x.letter(1, 6, 18, -1);
        x.day(17);
        return x;
    }

    /** A TEXT ends where it is cut, though the word or number goes on behind it on the TAPE. */
    private static void cut() {
        Object[][] cuts = {{"late;", 3, 1, 0}, {"late;", 4, 1, 4}, {"lateness;", 4, 1, 4}, {"days 99;", 6, 1, 6}, {"days 9999;", 8, 1, 8},
            {"days 9999;", 9, 2, 5}, {"late;days", 8, 1, 5}, {"late  ;", 5, 1, 5}, {"kind k leaps 1 -1;", 16, 1, 16}};
        for (Object[] c : cuts) {
            Game x = new Game();
            x.put((String) c[0]);
            Bounds.due("text(" + c[1] + ") of '" + c[0] + "'", x.text((Integer) c[1]), Bounds.NONE);
            Bounds.due("fault(0) of it", x.fault(0), (Integer) c[2]);
            Bounds.due("fault(1) of it", x.fault(1), (Integer) c[3]);
        }
        Game x = new Game();
        x.put("late;?");
        Bounds.due("text(5) of 'late;?'", x.text(5), 1);
        x.put("days 9;9");
        Bounds.due("text(7) of 'days 9;9'", x.text(7), 1);
        Bounds.due("count(8)", x.count(8), 9);
    }

    private static Game richWithTape() {
        Game x = rich();
        x.put("late;days 12;       ");
        return x;
    }

    private static void fault() {
        Bounds.promise(4, "Of the latest text() that was not -2, what 0: its FAULT (0), 1: its place (NONE without).");
        Game x = new Game();
        Bounds.due("fault(0) of a new one", x.fault(0), 0);
        Bounds.due("fault(1) of a new one", x.fault(1), Bounds.NONE);
        x.tell("days 1000;");
        Bounds.due("text(-1)", x.text(-1), -2);
        Bounds.due("fault(0) behind -2", x.fault(0), 2);
        Bounds.due("fault(1) behind -2", x.fault(1), 5);
        x.tell("board 3 3;board");
        Bounds.due("fault(0) of the latest", x.fault(0), 3);
        Bounds.due("fault(1) of the latest", x.fault(1), 10);
        x.tell("x");
        Bounds.due("fault(1) at place 0", x.fault(1), 0);
        x.tell("late;");
        Bounds.due("fault(0) of a good one", x.fault(0), 0);
        Bounds.due("fault(1) of a good one", x.fault(1), Bounds.NONE);
        Bounds.promise(4, "NONE for another what.");
        x.tell("days 1000;");
        for (int what : new int[] {-1, 2, Bounds.MIN, Bounds.MAX}) {
            Bounds.due("fault(" + what + ")", x.fault(what), Bounds.NONE);
        }
    }

    private static int bits(String name) {
        int bits = 0;
        for (int i = 0; i < 6; i++) {
            bits = bits * 32 + (i < name.length() ? name.charAt(i) - 'a' + 1 : 0);
        }
        return bits;
    }

    private static void named() {
        Bounds.promise(5, "The number of a KIND by its letters, 5 bits each (a is 1; the first one highest of six, 0 behind the last one);");
        String[] names = {"a", "zzzzzz", "abcdef", "az"};
        StringBuilder text = new StringBuilder();
        for (String name : names) {
            text.append("kind ").append(name).append(" leaps 1 0;");
        }
        Game x = Game.told(text.toString());
        for (int i = 0; i < names.length; i++) {
            Bounds.due("named() of " + names[i], x.named(bits(names[i])), i);
        }
        Bounds.due("named() of a", x.named(1 << 25), 0);
        Bounds.due("named() of zzzzzz", x.named(0x35ad6b5a), 1);
        Bounds.promise(5, "NONE: there is none such.");
        int[] others = {0, 1, -1, Bounds.MIN, Bounds.MAX, bits("aa"), bits("zzzzz"), bits("abcdeg"), bits("b"), bits("za"),
            bits("a") | 1 << 30, bits("a") | Bounds.MIN, bits("a") | 1};
        for (int letters : others) {
            Bounds.due("named(" + letters + ")", x.named(letters), Bounds.NONE);
        }
        Bounds.due("named() of a text without KINDS", new Game().named(1 << 25), Bounds.NONE);
        x.tell("kind b leaps 1 0;");
        Bounds.due("named() of a KIND of the TEXT ahead", x.named(bits("a")), Bounds.NONE);
        Bounds.due("named() of the second KIND ahead", x.named(bits("zzzzzz")), Bounds.NONE);
        Bounds.due("named() of the new one", x.named(bits("b")), 0);
    }

    private static void look() {
        Bounds.promise(6, "Of a KIND, what 0: whether it runs (1, 0), 1: how many steps, 2: whether it is a king.");
        Game x = Game.told("kind a leaps 1 0;kind b runs 1 0 0 1 king;kind c leaps 1 0 1 0 1 0 1 0 1 0 1 0 1 0 1 0 king;kind d runs 1 0;");
        int[][] kinds = {{0, 1, 0}, {1, 2, 1}, {0, 8, 1}, {1, 1, 0}};
        for (int kind = 0; kind < 4; kind++) {
            for (int what = 0; what < 3; what++) {
                Bounds.due("look(" + kind + ", " + what + ")", x.look(kind, what), kinds[kind][what]);
            }
        }
        Bounds.promise(6, "IndexOutOfBoundsException: no such KIND.");
        for (int kind : new int[] {-1, 4, Bounds.MIN, Bounds.MAX}) {
            Bounds.due("look(" + kind + ", 0)", x.look(kind, 0), -100);
        }
        Bounds.due("look(0, 0) without KINDS", new Game().look(0, 0), -100);
        Bounds.due("look(1, 0) of one KIND", Game.told(KIND).look(1, 0), -100);
        Bounds.refused("look(-1, 0)", TextBounds::rich, g -> g.look(-1, 0), -100);
        Bounds.promise(6, "NoSuchElementException: no such what.");
        for (int what : new int[] {-1, 3, Bounds.MIN, Bounds.MAX}) {
            Bounds.due("look(0, " + what + ")", x.look(0, what), -200);
            Bounds.due("look(3, " + what + ")", x.look(3, what), -200);
        }
        Bounds.refused("look(0, 3)", TextBounds::rich, g -> g.look(0, 3), -200);
    }

    static void all() {
        texts();
        lines();
        offsets();
        words();
        blanks();
        expressions();
        operands();
        doubleSigns();
        boards();
        kinds();
        stones();
        postAndDays();
        lateAndLaw();
        firstFaults();
        tokens();
        tooMuch();
        toldAlready();
        newObject();
        feed();
        text();
        fault();
        named();
        look();
    }
}
