/** The edges that section 1 of the terms and promises 1 to 7 name, a sentence at a time. */
public final class TextEdgeTest {
    private static final int BAD = Edge.BAD, NO = Edge.NO, FULL = Edge.FULL, NONE = Edge.NONE;
    private static final String[][] FIELDS = {
        {"i", ",3,7,9;", "0", "3"}, {"i3,", ",7,9;", "0", "3"}, {"i3,3,", ",9;", "0", "7"}, {"i3,3,7,", ";", "0", "9"},
        {"b", ";", "1", "8"}, {"d", ";", "0", "9"}, {"m", ";", "0", "40"}, {"h", ";", "1", "9"}, {"s", ";", "0", "10"},
    };
    private static final String EIGHT = Edge.times(8, "i0,0,0,0;");

    /** 199 letters without a FAULT. */
    private static final String LONG = Edge.times(65, "d1;") + "m10;";

    public static void main(String[] args) {
        newObject();
        writeLetters();
        writeLength();
        wipe();
        letters();
        figures();
        bounds();
        signs();
        howMany();
        faultPlace();
        atMost();
        laid();
        defaults();
        layClears();
        islander();
        boat();
        Edge.end("TextEdgeTest");
    }

    private static void due(String call, int got, int want) {
        Edge.due(call, got, want);
    }

    private static void newObject() {
        Edge.sentence("promise 1", "As told (THE TEXT is empty)");
        LeavingVote x = new LeavingVote();
        due("count(11)", x.count(11), 0);
        due("fault()", x.fault(), NONE);
        due("lay()", x.lay(), NO);
        due("wipe()", x.wipe(), 0);
        due("write('i')", x.write('i'), 1);
        Edge.sentence("promise 1", "no BOAT HELD, no STORM, no ICE, nothing SEEN, UNDONE, KEPT (at first)");
        x = new LeavingVote();
        for (int what : new int[] {2, 3, 4, 8, 9, 10}) {
            due("count(" + what + ")", x.count(what), 0);
        }
        due("undo()", x.undo(), NO);
        due("back()", x.back(), NO);
        due("forget()", x.forget(), 0);
        Edge.sentence("terms 1", "at first i0,1,0,2;i0,3,0,1;i1,1,0,0;i2,0,1,3;i2,2,5,1;i2,0,4,0;i3,3,0,4;i0,0,0,2;b2;b3;d4;m6;h5;s3;");
        x = new LeavingVote();
        LeavingVote y = Edge.laid("i0,1,0,2;i0,3,0,1;i1,1,0,0;i2,0,1,3;i2,2,5,1;i2,0,4,0;i3,3,0,4;i0,0,0,2;b2;b3;d4;m6;h5;s3;");
        for (int what = 0; what < 11; what++) {
            due("count(" + what + ")", x.count(what), y.count(what));
        }
        for (int i = 0; i < 8; i++) {
            for (int what = 0; what < 4; what++) {
                due("islander(" + i + ", " + what + ")", x.islander(i, what), y.islander(i, what));
            }
        }
        due("boat(0, 0)", x.boat(0, 0), 2);
        due("boat(1, 0)", x.boat(1, 0), 3);
        due("boat(2, 0)", x.boat(2, 0), BAD);
        due("odds(0, 0), of s3", x.odds(0, 0), 7);
        due("odds(0, 1), of s3", x.odds(0, 1), 10);
        Edge.sentence("promise 1", "As told (each object for itself)");
        y.lean(0, 0);
        y.write('i');
        x = new LeavingVote();
        due("islander(0, 1)", x.islander(0, 1), 1);
        due("count(11)", x.count(11), 0);
    }

    private static void writeLetters() {
        Edge.sentence("promise 2", "A letter (32 to 126, as in ASCII)");
        for (int c = -300; c <= 700; c++) {
            LeavingVote x = new LeavingVote();
            boolean letter = c >= 32 && c <= 126;
            due("write(" + c + ")", x.write(c), letter ? 1 : BAD);
            due("count(11) after write(" + c + ")", x.count(11), letter ? 1 : 0);
        }
        for (int c : Edge.FAR) {
            due("write(" + c + ")", new LeavingVote().write(c), BAD);
        }
        due("write(105 + 65536)", new LeavingVote().write(105 + 65536), BAD);
        due("write(105 - 65536)", new LeavingVote().write(105 - 65536), BAD);
        Edge.sentence("promise 2", "comes behind THE TEXT: how long it is");
        LeavingVote x = new LeavingVote();
        String text = "i3,1,0,9;";
        for (int k = 0; k < text.length(); k++) {
            due("write " + text.charAt(k), x.write(text.charAt(k)), k + 1);
            due("count(11)", x.count(11), k + 1);
            due("fault()", x.fault(), k + 1 < text.length() ? 0 : NONE);
        }
        due("lay()", x.lay(), 1);
        due("write behind what was laid", x.write('b'), 10);
        due("fault()", x.fault(), 9);
        Edge.sentence("promise 2", "BAD (nothing changes then)");
        x = new LeavingVote();
        for (int k = 0; k < text.length(); k++) {
            x.write(text.charAt(k));
            due("write(31)", x.write(31), BAD);
            due("write(127)", x.write(127), BAD);
            due("count(11)", x.count(11), k + 1);
        }
        due("fault()", x.fault(), NONE);
        due("lay()", x.lay(), 1);
    }

    private static void writeLength() {
        Edge.sentence("terms 1", "letters (200 at most)");
        LeavingVote x = new LeavingVote();
        for (int k = 1; k <= 200; k++) {
            due("letter " + k, x.write('a'), k);
        }
        due("count(11)", x.count(11), 200);
        Edge.sentence("promise 2", "FULL");
        due("letter 201", x.write('a'), FULL);
        due("letter 201, space", x.write(32), FULL);
        due("letter 201, ~", x.write(126), FULL);
        due("count(11)", x.count(11), 200);
        Edge.sentence("promise 2", "BAD; FULL. (Of several the first)");
        due("write(31)", x.write(31), BAD);
        due("write(127)", x.write(127), BAD);
        due("write(-1)", x.write(-1), BAD);
        due("count(11)", x.count(11), 200);
        Edge.sentence("promise 2", "FULL (nothing changes then)");
        x = Edge.written(EIGHT + Edge.times(5, "b1;") + Edge.times(35, "d1;") + "m10;m20;");
        due("count(11)", x.count(11), 200);
        due("write(';')", x.write(';'), FULL);
        due("write('9')", x.write('9'), FULL);
        due("fault()", x.fault(), NONE);
        due("lay() of 200 letters", x.lay(), 8);
        due("count(6), told by the last of 200 letters", x.count(6), 20);
        x = Edge.written(LONG + "d");
        due("write('2') as letter 201", x.write('2'), FULL);
        due("the place of an ITEM that the end cuts off", x.fault(), 199);
        Edge.sentence("promise 2", "FULL (but not any more once THE TEXT is empty)");
        due("wipe()", x.wipe(), 200);
        due("write", x.write('b'), 1);
    }

    private static void wipe() {
        Edge.sentence("promise 3", "THE TEXT is empty: how long it was");
        LeavingVote x = new LeavingVote();
        due("wipe() of none", x.wipe(), 0);
        x.write('x');
        due("wipe() of one", x.wipe(), 1);
        due("wipe() again", x.wipe(), 0);
        due("count(11)", x.count(11), 0);
        due("fault()", x.fault(), NONE);
        Edge.write(x, LONG);
        due("wipe() of 199", x.wipe(), 199);
        Edge.write(x, LONG + "x");
        due("wipe() of 200", x.wipe(), 200);
        due("count(11)", x.count(11), 0);
        Edge.sentence("promise 3", "THE TEXT is empty (what was in it does not come back)");
        x = Edge.written("i0,0,0,0;b1;");
        x.wipe();
        due("lay()", x.lay(), NO);
        Edge.write(x, "b");
        due("fault()", x.fault(), 0);
        x.wipe();
        Edge.write(x, "i0,");
        due("fault() of the beginning of what was there", x.fault(), 0);
        Edge.sentence("promise 3", "THE TEXT is empty (and nothing else)");
        x = Edge.laid("i0,1,0,5;b3;d2;m1;h4;");
        x.hold(0);
        x.seen(0, 1);
        x.keep();
        due("wipe()", x.wipe(), 21);
        int[] counts = {1, 1, 1, 0, 0, 2, 1, 4, 1, 1, 1, 0};
        for (int what = 0; what < counts.length; what++) {
            due("count(" + what + ")", x.count(what), counts[what]);
        }
    }

    private static void letters() {
        Edge.sentence("terms 1", "ITEMS one behind the other, each a letter");
        for (char c = 32; c <= 126; c++) {
            boolean one = "bdmhs".indexOf(c) >= 0;
            due("fault() of " + c + "1;", Edge.faultOf(c + "1;"), one ? NONE : 0);
            due("fault() of b1;" + c + "1;", Edge.faultOf("b1;" + c + "1;"), one ? NONE : 3);
            due("fault() of " + c + "0,0,0,0;", Edge.faultOf(c + "0,0,0,0;"), c == 'i' ? NONE : 0);
            due("fault() of " + c, Edge.faultOf("" + c), 0);
            due("fault() of " + c + ";", Edge.faultOf(c + ";"), 0);
            due("fault() of m1;" + c, Edge.faultOf("m1;" + c), 3);
        }
        due("fault() of numbers without a letter", Edge.faultOf("1;"), 0);
        due("fault() of bb1;", Edge.faultOf("bb1;"), 0);
    }

    private static void figures() {
        Edge.sentence("terms 1", "numbers (one or two figures)");
        for (String[] field : FIELDS) {
            due("fault() without a figure in " + field[0] + field[1], Edge.faultOf(field[0] + field[1]), 0);
            int from = Integer.parseInt(field[2]);
            int to = Integer.parseInt(field[3]);
            for (int n = 0; n < 100; n++) {
                String three = field[0] + String.format("%03d", n) + field[1];
                due("fault() of three figures, " + three, Edge.faultOf(three), 0);
                String two = field[0] + String.format("%02d", n) + field[1];
                due("fault() of two figures, " + two, Edge.faultOf(two), n >= from && n <= to ? NONE : 0);
            }
            due("fault() of four figures", Edge.faultOf(field[0] + "0001" + field[1]), 0);
            due("fault() of ten figures", Edge.faultOf(field[0] + "4294967297" + field[1]), 0);
            due("fault() of -1", Edge.faultOf(field[0] + "-1" + field[1]), 0);
            due("fault() of +1", Edge.faultOf(field[0] + "+1" + field[1]), 0);
        }
        Edge.sentence("terms 1", "numbers (figures, and no other sign)");
        for (String[] field : FIELDS) {
            for (char c = 32; c <= 126; c++) {
                if (c < '0' || c > '9') {
                    due("fault() with " + c + " for a number", Edge.faultOf(field[0] + c + field[1]), 0);
                    due("fault() with " + c + " for the first figure", Edge.faultOf(field[0] + c + "1" + field[1]), 0);
                    due("fault() with " + c + " for both", Edge.faultOf(field[0] + c + c + field[1]), 0);
                }
                if ((c < '0' || c > '9') && c != ',' && c != ';') {
                    due("fault() with " + c + " for the second figure", Edge.faultOf(field[0] + "1" + c + field[1]), 0);
                    due("fault() with " + c + " behind a 0", Edge.faultOf(field[0] + "0" + c + field[1]), 0);
                    due("fault() with " + c + " for the third", Edge.faultOf(field[0] + "01" + c + field[1]), 0);
                }
            }
        }
        Edge.sentence("terms 1", "numbers (one or two figures; what two tell)");
        LeavingVote x = Edge.laid("i00,01,00,09;i03,02,01,00;b08;b01;d09;m40;h09;s10;");
        int[][] told = {{0, 1, 0, 9}, {3, 2, 1, 0}};
        for (int i = 0; i < 2; i++) {
            for (int what = 0; what < 4; what++) {
                due("islander(" + i + ", " + what + ")", x.islander(i, what), told[i][what]);
            }
        }
        due("boat(0, 0)", x.boat(0, 0), 8);
        due("boat(1, 0)", x.boat(1, 0), 1);
        due("count(5)", x.count(5), 9);
        due("count(6)", x.count(6), 40);
        due("count(7)", x.count(7), 9);
        for (int m = 0; m <= 40; m++) {
            due("count(6) of m" + m, Edge.laid("i0,0,0,0;m" + m + ";").count(6), m);
        }
    }

    private static void bounds() {
        String[] words = {
            "KIND K (0 PLAIN, 1 SEASICK, 2 COUSIN, 3 LAME)", "LEANING L (0 to 3)", "who MINDS ISLANDER J (0 to 7; himself, too)",
            "milks C (0 to 9) cows", "a BOAT of S (1 to 8) seats", "N (0 to 9) BEDS ashore", "M (0 to 40) cows must be milked",
            "P (1 to 9) tenths of all", "X (0 to 10) of ten",
        };
        for (int f = 0; f < FIELDS.length; f++) {
            Edge.sentence("terms 1", words[f]);
            int from = Integer.parseInt(FIELDS[f][2]);
            int to = Integer.parseInt(FIELDS[f][3]);
            for (int n = 0; n < 100; n++) {
                String item = FIELDS[f][0] + n + FIELDS[f][1];
                boolean told = n >= from && n <= to;
                due("fault() of " + item, Edge.faultOf(item), told ? NONE : 0);
                due("fault() of b1;m10;" + item + "h1;", Edge.faultOf("b1;m10;" + item + "h1;"), told ? NONE : 7);
            }
        }
        Edge.sentence("terms 1", "who MINDS ISLANDER J (0 to 7; though there is none such yet)");
        due("fault() of i0,0,7,0;", Edge.faultOf("i0,0,7,0;"), NONE);
        due("fault() of i2,0,1,0;", Edge.faultOf("i2,0,1,0;"), NONE);
    }

    private static void signs() {
        Edge.sentence("terms 1", "parted by ,");
        for (char c = 32; c <= 126; c++) {
            int want = c == ',' ? NONE : 0;
            due("fault() with " + c + " behind K", Edge.faultOf("i0" + c + "0,0,0;"), want);
            due("fault() with " + c + " behind L", Edge.faultOf("i0,0" + c + "0,0;"), want);
            due("fault() with " + c + " behind J", Edge.faultOf("i0,0,0" + c + "0;"), want);
        }
        due("fault() of two commas", Edge.faultOf("i0,,0,0,0;"), 0);
        due("fault() of a comma first", Edge.faultOf("i,0,0,0,0;"), 0);
        due("fault() of a comma last", Edge.faultOf("i0,0,0,0,;"), 0);
        due("fault() of b1,;", Edge.faultOf("b1,;"), 0);
        due("fault() of b,1;", Edge.faultOf("b,1;"), 0);
        due("fault() of a space behind the comma", Edge.faultOf("i0, 0,0,0;"), 0);
        Edge.sentence("terms 1", "a ; behind the last one");
        for (char c = 32; c <= 126; c++) {
            int want = c == ';' ? NONE : 0;
            due("fault() of i0,0,0,0" + c, Edge.faultOf("i0,0,0,0" + c), want);
            for (char letter : "bdmhs".toCharArray()) {
                due("fault() of " + letter + "1" + c, Edge.faultOf(letter + "1" + c), want);
                due("fault() of " + letter + "1" + c + "s5;", Edge.faultOf(letter + "1" + c + "s5;"), want);
            }
            due("fault() of m40" + c, Edge.faultOf("m40" + c), want);
        }
        due("fault() of b1", Edge.faultOf("b1"), 0);
        due("fault() of b1;b1", Edge.faultOf("b1;b1"), 3);
        due("fault() of b1b1;", Edge.faultOf("b1b1;"), 0);
        due("fault() of b1 ;", Edge.faultOf("b1 ;"), 0);
        due("fault() of b1; b1;", Edge.faultOf("b1; b1;"), 3);
        due("fault() of b1;;", Edge.faultOf("b1;;"), 3);
        Edge.sentence("terms 1", "ITEMS one behind the other (a text that ends within one)");
        for (String item : new String[] {"i0,0,0,0;", "i03,03,07,09;", "b8;", "d9;", "m40;", "h9;", "s10;"}) {
            for (int k = 0; k <= item.length(); k++) {
                boolean whole = k == 0 || k == item.length();
                due("fault() of " + item.substring(0, k), Edge.faultOf(item.substring(0, k)), whole ? NONE : 0);
                due("fault() of b1;" + item.substring(0, k), Edge.faultOf("b1;" + item.substring(0, k)), whole ? NONE : 3);
            }
        }
    }

    private static void howMany() {
        Edge.sentence("terms 1", "iK,L,J,C (four numbers)");
        String numbers = "0,0,0,0,0,0";
        for (int n = 1; n <= 6; n++) {
            String item = "i" + numbers.substring(0, 2 * n - 1) + ";";
            due("fault() of " + item, Edge.faultOf(item), n == 4 ? NONE : 0);
        }
        Edge.sentence("terms 1", "bS dN mM hP sX (one number)");
        for (char letter : "bdmhs".toCharArray()) {
            due("fault() of one for " + letter, Edge.faultOf(letter + "1;"), NONE);
            due("fault() of two for " + letter, Edge.faultOf(letter + "1,1;"), 0);
            due("fault() of none for " + letter, Edge.faultOf(letter + ";"), 0);
            due("fault() of four for " + letter, Edge.faultOf(letter + "1,1,1,1;"), 0);
        }
    }

    private static void faultPlace() {
        Edge.sentence("promise 4", "NONE");
        due("fault() of nothing", Edge.faultOf(""), NONE);
        due("fault() of one ITEM", Edge.faultOf("d0;"), NONE);
        due("fault() of 199 letters", Edge.faultOf(LONG), NONE);
        due("fault() of 200 letters", Edge.faultOf(Edge.times(50, "m10;")), NONE);
        due("fault() of what can't be laid for want of an ISLANDER", Edge.faultOf("b1;"), NONE);
        Edge.sentence("terms 1", "FAULT: the place of the first letter of the first ITEM that is not so");
        due("the first place", Edge.faultOf("x"), 0);
        due("the last place", Edge.faultOf(LONG + "x"), 199);
        due("the last place, a letter that begins an ITEM", Edge.faultOf(LONG + "m"), 199);
        due("the last ITEM of 200 letters without its ;", Edge.faultOf(LONG.substring(0, 195) + "m10;x"), 199);
        due("an ITEM cut off by the last place", Edge.faultOf(Edge.times(49, "m10;") + "m101"), 196);
        due("not of the number that is not so", Edge.faultOf("d1;i0,0,0,99;"), 3);
        due("the first of two", Edge.faultOf("b0;b9;"), 0);
        due("the first of three", Edge.faultOf("d1;h0;b9;s11;"), 3);
        due("a later one is not looked for", Edge.faultOf("m41;i0,0,0,0;"), 0);
        for (int good = 0; good <= 65; good++) {
            due("behind " + good + " good ones", Edge.faultOf(Edge.times(good, "s1;") + "h0;"), 3 * good);
        }
        Edge.sentence("promise 4", "FAULT (nothing changes by it)");
        LeavingVote x = Edge.laid("i0,1,0,5;b3;d2;m1;h4;");
        x.wipe();
        Edge.write(x, "i3,0,0,0;i1,0,0,0;d9;m9;h9;b1;b1;b1");
        due("fault()", x.fault(), 33);
        due("fault() again", x.fault(), 33);
        int[] counts = {1, 1, 0, 0, 0, 2, 1, 4, 0, 0, 0, 35};
        for (int what = 0; what < counts.length; what++) {
            due("count(" + what + ")", x.count(what), counts[what]);
        }
        due("islander(0, 0)", x.islander(0, 0), 0);
        due("leave(0)", x.leave(0), 1);
        x.write(';');
        due("fault() of THE TEXT as it is then", x.fault(), NONE);
    }

    private static void atMost() {
        Edge.sentence("terms 1", "an ISLANDER ..; 8 at most");
        for (int n = 0; n <= 12; n++) {
            due("fault() of " + n + " islanders", Edge.faultOf(Edge.times(n, "i0,0,0,0;")), n <= 8 ? NONE : 72);
        }
        due("fault() of nine with a boat between", Edge.faultOf(EIGHT + "b1;i0,0,0,0;"), 75);
        due("fault() of a fault before the ninth", Edge.faultOf(EIGHT + "b0;i0,0,0,0;"), 72);
        due("fault() of a ninth one that is not so either", Edge.faultOf(EIGHT + "i4,0,0,0;b0;"), 72);
        due("lay() of eight", Edge.layOf(EIGHT), 8);
        due("lay() of nine", Edge.layOf(EIGHT + "i0,0,0,0;"), NO);
        Edge.sentence("terms 1", "a BOAT ..; 5 at most");
        for (int n = 0; n <= 9; n++) {
            due("fault() of " + n + " boats", Edge.faultOf(Edge.times(n, "b8;")), n <= 5 ? NONE : 15);
        }
        due("fault() of six, the last behind other items", Edge.faultOf(Edge.times(5, "b1;") + "d1;h1;i0,0,0,0;b1;"), 30);
        due("lay() of five boats", Edge.layOf("i0,0,0,0;" + Edge.times(5, "b1;")), 1);
        due("lay() of six boats", Edge.layOf("i0,0,0,0;" + Edge.times(6, "b1;")), NO);
        due("count(1) of five", Edge.laid("i0,0,0,0;" + Edge.times(5, "b1;")).count(1), 5);
        due("count(1) of none", Edge.laid("i0,0,0,0;").count(1), 0);
        Edge.sentence("terms 1", "dN, mM, hP, sX (the last one: as many as one likes)");
        for (String item : new String[] {"d1;", "m1;", "h1;", "s1;"}) {
            due("fault() of 66 times " + item, Edge.faultOf(Edge.times(66, item)), NONE);
        }
        Edge.sentence("terms 1", "0, 1, .. (numbered as they come, whatever is between)");
        LeavingVote x = Edge.laid("b3;i0,1,0,9;d1;b1;i3,2,0,8;m1;b8;h1;i1,0,2,7;s1;b2;");
        int[] kinds = {0, 3, 1};
        int[] seats = {3, 1, 8, 2};
        for (int i = 0; i < 3; i++) {
            due("islander(" + i + ", 0)", x.islander(i, 0), kinds[i]);
            due("islander(" + i + ", 3)", x.islander(i, 3), 9 - i);
        }
        for (int b = 0; b < 4; b++) {
            due("boat(" + b + ", 0)", x.boat(b, 0), seats[b]);
        }
    }

    private static void laid() {
        Edge.sentence("terms 1", "LAID is a TEXT without FAULT (NO else)");
        due("lay() with a fault at the first place", Edge.layOf("xi0,0,0,0;"), NO);
        due("lay() with a fault at the last place", Edge.layOf("i0,0,0,0;x"), NO);
        due("lay() without the last ;", Edge.layOf("i0,0,0,0"), NO);
        due("lay() with its last ;", Edge.layOf("i0,0,0,0;"), 1);
        Edge.sentence("terms 1", "of an ISLANDER at least (NO else)");
        due("lay() of nothing", Edge.layOf(""), NO);
        due("lay() of all but one", Edge.layOf("b1;d1;m0;h1;s1;"), NO);
        Edge.sentence("promise 5", "LAID: how many ISLANDERS");
        for (int n = 1; n <= 8; n++) {
            due("lay() of " + n, Edge.layOf(Edge.times(n, "i0,0,0,0;")), n);
        }
        Edge.sentence("terms 1", "all MINDING such as there are (NO else)");
        for (int n = 1; n <= 8; n++) {
            for (int i = 0; i < n; i++) {
                for (int j = 0; j < 8; j++) {
                    String text = Edge.times(i, "i0,0,0,0;") + "i" + (i + j) % 4 + ",0," + j + ",0;" + Edge.times(n - i - 1, "i2,0,0,0;");
                    due("lay() of " + text, Edge.layOf(text), j < n ? n : NO);
                }
            }
        }
        Edge.sentence("promise 5", "NO (nothing changes then)");
        for (String text : new String[] {"", "b4;d9;m9;h9;s9;", "i3,3,1,9;b4;d9;s9;", "i3,3,0,9;b4;d9;s9;x", "i3,3,0,9;b0;"}) {
            LeavingVote x = Edge.laid("i0,1,0,5;i1,3,0,2;b3;b1;d2;m1;h8;s2;");
            x.hold(1);
            x.weather(1);
            x.weather(0);
            x.seen(0, 2);
            x.keep();
            x.wipe();
            Edge.write(x, text);
            due("lay() of " + text, x.lay(), NO);
            int[] counts = {2, 2, 1, 1, 1, 2, 1, 8, 1, 3, 1, text.length()};
            for (int what = 0; what < counts.length; what++) {
                due("count(" + what + ") after lay() of " + text, x.count(what), counts[what]);
            }
            due("islander(0, 0)", x.islander(0, 0), 0);
            due("islander(1, 0)", x.islander(1, 0), 1);
            due("islander(0, 3)", x.islander(0, 3), 5);
            due("boat(0, 0)", x.boat(0, 0), 3);
            due("leave(0)", x.leave(0), 3);
            due("odds(0, 0)", x.odds(0, 0), 4);
            due("oars(0)", x.oars(0), 4);
            due("undo()", x.undo(), 2);
            due("back()", x.back(), 0);
        }
    }

    private static void defaults() {
        Edge.sentence("terms 1", "BEDS ashore (4 without; the last one)");
        due("count(5) without", Edge.laid("i0,0,0,0;").count(5), 4);
        due("count(5) of d0", Edge.laid("i0,0,0,0;d0;").count(5), 0);
        due("count(5) of d9, d0", Edge.laid("i0,0,0,0;d9;d0;").count(5), 0);
        due("count(5) of d0, d9", Edge.laid("d0;i0,0,0,0;d9;").count(5), 9);
        due("count(5) of d1, d2, d3", Edge.laid("d1;d2;i0,0,0,0;d3;").count(5), 3);
        due("leave(0) without", Edge.laid(Edge.people(6, 0, 63) + "b8;").leave(0), 15);
        Edge.sentence("terms 1", "cows must be milked (0 without; the last one)");
        due("count(6) without", Edge.laid("i0,0,0,0;").count(6), 0);
        due("milked(0, 1) without", Edge.laid("i0,3,0,9;b1;").milked(0, 1), 1);
        due("count(6) of m40, m0", Edge.laid("i0,0,0,0;m40;m0;").count(6), 0);
        due("count(6) of m0, m40", Edge.laid("m0;i0,0,0,0;m40;").count(6), 40);
        Edge.sentence("terms 1", "a law FALLS that P tenths of all leave (5 without; the last one)");
        due("count(7) without", Edge.laid("i0,0,0,0;").count(7), 5);
        due("falls(0) without, half", Edge.laid(Edge.people(4, 0, 3) + "b8;").falls(0), 1);
        due("falls(0) without, less", Edge.laid(Edge.people(5, 0, 3) + "b8;").falls(0), 0);
        due("count(7) of h9, h1", Edge.laid("i0,0,0,0;h9;h1;").count(7), 1);
        due("count(7) of h1, h9", Edge.laid("h1;i0,0,0,0;h9;").count(7), 9);
        Edge.sentence("terms 1", "a SEASICK one stays by X of ten (3 without; the last one)");
        LeavingVote x = Edge.laid("i1,1,0,0;b1;");
        due("odds(0, 0) without", x.odds(0, 0), 7);
        due("odds(0, 1) without", x.odds(0, 1), 10);
        x = Edge.laid("i1,1,0,0;b1;s10;s9;");
        due("odds(0, 0) of s10, s9", x.odds(0, 0), 1);
        due("odds(0, 1) of s10, s9", x.odds(0, 1), 10);
        x = Edge.laid("s9;i1,1,0,0;b1;s10;");
        due("odds(0, 0) of s9, s10", x.odds(0, 0), 0);
        Edge.sentence("terms 1", "without (whatever the ISLAND before had)");
        x = Edge.laid("i1,1,0,9;i1,1,0,9;b8;b7;d9;m40;h9;s10;");
        x.wipe();
        Edge.write(x, "i1,1,0,0;i2,0,0,3;b1;");
        due("lay()", x.lay(), 2);
        int[] counts = {2, 1, 0, 0, 0, 4, 0, 5};
        for (int what = 0; what < counts.length; what++) {
            due("count(" + what + ")", x.count(what), counts[what]);
        }
        due("odds(0, 0)", x.odds(0, 0), 7);
        due("the seats of boats that are no more", x.leave(0), 1);
        due("boat(1, 0)", x.boat(1, 0), BAD);
        x.wipe();
        Edge.write(x, "i0,1,0,2;");
        due("lay()", x.lay(), 1);
        due("the cows of islanders that are no more", x.milked(0, 0), 2);
        due("leave(0) without a boat", x.leave(0), 0);
        due("islander(1, 0)", x.islander(1, 0), BAD);
        due("boat(0, 0)", x.boat(0, 0), BAD);
    }

    private static void layClears() {
        String text = "i0,1,0,5;i2,0,0,0;b1;b1;";
        Edge.sentence("promise 5", "no BOAT HELD");
        LeavingVote x = Edge.laid(text);
        x.hold(0);
        x.hold(1);
        due("lay()", x.lay(), 2);
        due("count(2)", x.count(2), 0);
        due("boat(0, 1)", x.boat(0, 1), 0);
        due("boat(1, 1)", x.boat(1, 1), 0);
        due("leave(0)", x.leave(0), 3);
        Edge.sentence("promise 5", "no STORM");
        x = Edge.stormy(text);
        x.lay();
        due("count(3)", x.count(3), 0);
        due("wants(0)", x.wants(0), 3);
        Edge.sentence("promise 5", "no ICE");
        x = Edge.iced(text);
        x.lay();
        due("count(4)", x.count(4), 0);
        due("wants(0)", x.wants(0), 3);
        Edge.sentence("promise 5", "nothing SEEN");
        x = Edge.laid(text);
        for (int k = 0; k < 8; k++) {
            x.seen(0, 8);
        }
        x.lay();
        due("count(8)", x.count(8), 0);
        due("oars(0)", x.oars(0), 4);
        due("seen(0, 0)", x.seen(0, 0), 1);
        Edge.sentence("promise 5", "nothing UNDONE");
        x = Edge.laid(text);
        for (int k = 0; k < 9; k++) {
            x.lean(0, 2);
        }
        x.lay();
        due("count(9)", x.count(9), 0);
        due("undo()", x.undo(), NO);
        due("islander(0, 1)", x.islander(0, 1), 1);
        Edge.sentence("promise 5", "nothing KEPT");
        x = Edge.laid(text);
        x.keep();
        x.keep();
        x.lay();
        due("count(10)", x.count(10), 0);
        due("back()", x.back(), NO);
        due("keep()", x.keep(), 1);
        Edge.sentence("promise 5", "LAID (as THE TEXT says, whatever was changed)");
        x = Edge.laid(text);
        x.lean(0, 0);
        x.mind(1, 1);
        x.lay();
        due("islander(0, 1)", x.islander(0, 1), 1);
        due("islander(1, 2)", x.islander(1, 2), 0);
        Edge.sentence("promise 5", "LAID (THE TEXT stays)");
        due("count(11)", x.count(11), text.length());
        due("fault()", x.fault(), NONE);
    }

    private static void islander() {
        Edge.sentence("promise 6", "Of an ISLANDER: KIND (what = 0), LEANING (1), whom he MINDS (2), cows (3)");
        for (int v = 0; v < 10; v++) {
            LeavingVote x = Edge.laid(Edge.times(7, "i0,0,0,0;") + "i" + v % 4 + "," + (3 - v % 4) + "," + v % 8 + "," + v + ";");
            due("islander(7, 0)", x.islander(7, 0), v % 4);
            due("islander(7, 1)", x.islander(7, 1), 3 - v % 4);
            due("islander(7, 2)", x.islander(7, 2), v % 8);
            due("islander(7, 3)", x.islander(7, 3), v);
            due("islander(6, 3)", x.islander(6, 3), 0);
        }
        Edge.sentence("promise 6", "BAD (ISLANDERS: such as there are)");
        for (int n = 1; n <= 8; n++) {
            LeavingVote x = Edge.laid(Edge.times(n, "i1,1,0,1;"));
            for (int i = -3; i < 40; i++) {
                for (int what = 0; what < 4; what++) {
                    due("islander(" + i + ", " + what + ") of " + n, x.islander(i, what), i < 0 || i >= n ? BAD : what == 2 ? 0 : 1);
                }
            }
        }
        Edge.sentence("promise 6", "BAD (what: 0 to 3)");
        LeavingVote x = new LeavingVote();
        for (int what = 4; what < 70; what++) {
            due("islander(0, " + what + ")", x.islander(0, what), BAD);
            due("islander(7, " + what + ")", x.islander(7, what), BAD);
        }
        for (int far : Edge.FAR) {
            due("islander(0, " + far + ")", x.islander(0, far), BAD);
            due("islander(" + far + ", 0)", x.islander(far, 0), BAD);
            due("islander(" + far + ", " + far + ")", x.islander(far, far), BAD);
        }
    }

    private static void boat() {
        Edge.sentence("promise 7", "Of a BOAT: seats (what = 0), 1 if it is HELD (1)");
        LeavingVote x = Edge.laid("i0,0,0,0;b8;b1;b7;b2;b5;");
        int[] seats = {8, 1, 7, 2, 5};
        for (int b = 0; b < 5; b++) {
            due("boat(" + b + ", 0)", x.boat(b, 0), seats[b]);
            due("boat(" + b + ", 1)", x.boat(b, 1), 0);
            x.hold(b);
            for (int c = 0; c < 5; c++) {
                due("boat(" + c + ", 1) with " + b + " held", x.boat(c, 1), c == b ? 1 : 0);
            }
            due("boat(" + b + ", 0) held", x.boat(b, 0), seats[b]);
            x.hold(b);
            due("boat(" + b + ", 1) let go", x.boat(b, 1), 0);
        }
        Edge.sentence("promise 7", "BAD (BOATS: such as there are)");
        for (int n = 0; n <= 5; n++) {
            x = Edge.laid("i0,0,0,0;" + Edge.times(n, "b1;"));
            for (int b = -3; b < 40; b++) {
                due("boat(" + b + ", 0) of " + n, x.boat(b, 0), b < 0 || b >= n ? BAD : 1);
                due("boat(" + b + ", 1) of " + n, x.boat(b, 1), b < 0 || b >= n ? BAD : 0);
            }
        }
        Edge.sentence("promise 7", "BAD (what: 0, 1)");
        for (int what = 2; what < 70; what++) {
            due("boat(0, " + what + ")", x.boat(0, what), BAD);
        }
        for (int far : Edge.FAR) {
            due("boat(0, " + far + ")", x.boat(0, far), BAD);
            due("boat(" + far + ", 0)", x.boat(far, 0), BAD);
            due("boat(" + far + ", 1)", x.boat(far, 1), BAD);
        }
    }
}
