/** The edges that section 4 of the terms and promises 24 to 32 name, a sentence at a time. */
public final class SeenEdgeTest {
    private static final int BAD = Edge.BAD, NO = Edge.NO, FULL = Edge.FULL, NONE = Edge.NONE;

    public static void main(String[] args) {
        seen();
        forget();
        oarsAll();
        oarsSome();
        oarsNow();
        oddsOfOne();
        oddsOfMany();
        oddsOfWhom();
        asked();
        monthsBounds();
        monthsDraws();
        monthsElse();
        keep();
        back();
        backOrder();
        count();
        Edge.end("SeenEdgeTest");
    }

    private static void due(String call, int got, int want) {
        Edge.due(call, got, want);
    }

    private static void seen() {
        Edge.sentence("terms 4", "SEEN (8 at most)");
        LeavingVote x = new LeavingVote();
        for (int k = 1; k <= 8; k++) {
            due("seen, the " + k + "th", x.seen(k % 2, 8 - k), k);
            due("count(8)", x.count(8), k);
        }
        Edge.sentence("promise 24", "FULL");
        due("seen, the 9th", x.seen(0, 0), FULL);
        due("seen, the 9th", x.seen(1, 8), FULL);
        due("count(8)", x.count(8), 8);
        Edge.sentence("promise 24", "BAD; FULL (of several the first)");
        due("seen(0, 9)", x.seen(0, 9), BAD);
        due("seen(0, -1)", x.seen(0, -1), BAD);
        due("seen(2, 0)", x.seen(2, 0), BAD);
        due("seen(-1, 0)", x.seen(-1, 0), BAD);
        Edge.sentence("promise 24", "FULL (not any more once it is forgotten)");
        due("forget()", x.forget(), 8);
        due("seen", x.seen(0, 0), 1);
        Edge.sentence("terms 4", "that k (0 to 8) left on a QUESTION");
        for (int k = -40; k < 80; k++) {
            x = Edge.laid("i0,0,0,0;");
            due("seen(0, " + k + ")", x.seen(0, k), k >= 0 && k <= 8 ? 1 : BAD);
            due("seen(1, " + k + ")", x.seen(1, k), k >= 0 && k <= 8 ? 2 : BAD);
            due("count(8)", x.count(8), k >= 0 && k <= 8 ? 2 : 0);
        }
        Edge.sentence("promise 24", "BAD (QUESTIONS: such as there are)");
        x = new LeavingVote();
        for (int q = -40; q < 80; q++) {
            if (q != 0 && q != 1) {
                due("seen(" + q + ", 0)", x.seen(q, 0), BAD);
            }
        }
        for (int far : Edge.FAR) {
            due("seen(" + far + ", 0)", x.seen(far, 0), BAD);
            due("seen(0, " + far + ")", x.seen(0, far), BAD);
        }
        Edge.sentence("promise 24", "BAD (nothing changes then)");
        due("count(8)", x.count(8), 0);
        due("oars(0)", x.oars(0), 4);
        Edge.sentence("promise 24", "FULL (nothing changes then)");
        x = Edge.laid(Edge.people(3, 0, 7) + "b1;b2;");
        for (int k = 0; k < 8; k++) {
            x.seen(k % 2, 3);
        }
        due("seen(0, 0)", x.seen(0, 0), FULL);
        due("seen(1, 0)", x.seen(1, 0), FULL);
        due("oars(0)", x.oars(0), 1);
    }

    private static void forget() {
        Edge.sentence("promise 25", "Nothing is SEEN: how many were");
        LeavingVote x = Edge.laid(Edge.people(3, 0, 7) + "b1;b2;");
        for (int n = 0; n <= 8; n++) {
            for (int k = 0; k < n; k++) {
                x.seen(0, 8);
            }
            due("oars(0) of " + n, x.oars(0), n == 0 ? 4 : 0);
            due("forget() of " + n, x.forget(), n);
            due("count(8)", x.count(8), 0);
            due("oars(0), then", x.oars(0), 4);
            due("forget() again", x.forget(), 0);
        }
    }

    private static void oarsAll() {
        Edge.sentence("terms 4", "OARS: of all sets of BOATS that may have been HELD (nothing is SEEN: all)");
        for (int n = 0; n <= 5; n++) {
            LeavingVote x = Edge.laid("i0,0,0,0;" + Edge.times(n, "b1;"));
            due("oars(0) of " + n + " boats", x.oars(0), 1 << n);
            due("oars(1) of " + n + " boats", x.oars(1), 0);
        }
        Edge.sentence("terms 4", "OARS: of all sets of BOATS (without a BOAT the empty one)");
        LeavingVote x = Edge.laid("i0,1,0,0;");
        x.seen(0, 0);
        due("oars(0)", x.oars(0), 1);
        due("oars(1)", x.oars(1), 0);
        x.seen(1, 1);
        due("oars(0)", x.oars(0), 0);
        due("oars(1)", x.oars(1), NONE);
        Edge.sentence("promise 26", "NONE");
        x = new LeavingVote();
        x.seen(0, 8);
        due("oars(0)", x.oars(0), 0);
        due("oars(1)", x.oars(1), NONE);
        Edge.sentence("promise 26", "NONE; BAD (of several the first)");
        for (int far : Edge.FAR) {
            due("oars(" + far + ")", x.oars(far), BAD);
        }
        for (int what = 2; what < 70; what++) {
            due("oars(" + what + ")", x.oars(what), BAD);
        }
    }

    private static void oarsSome() {
        Edge.sentence("terms 4", "those by which all that was SEEN is so: how many; the first (bits)");
        for (int k = 0; k <= 8; k++) {
            LeavingVote x = Edge.laid(Edge.people(8, 0, 255) + "b1;b2;b4;d9;");
            x.seen(0, k);
            due("oars(0), " + k + " left", x.oars(0), k < 8 ? 1 : 0);
            due("oars(1), " + k + " left", x.oars(1), k < 8 ? 7 - k : NONE);
        }
        int[] choose = {1, 5, 10, 10, 5, 1, 0, 0, 0};
        for (int k = 0; k <= 8; k++) {
            LeavingVote x = Edge.laid(Edge.people(8, 0, 255) + "b1;b1;b1;b1;b1;d9;");
            x.seen(1, k);
            due("oars(0), " + k + " of five left", x.oars(0), choose[k]);
            due("oars(1), " + k + " of five left", x.oars(1), k <= 5 ? Edge.all(5 - k) : NONE);
        }
        Edge.sentence("terms 4", "by which all that was SEEN is so (the first, the last of eight)");
        for (int other = 0; other < 8; other++) {
            LeavingVote x = Edge.laid(Edge.people(4, 0, 15) + "b1;b2;b1;");
            for (int k = 0; k < 8; k++) {
                x.seen(k % 2, k == other ? 2 : 3);
            }
            due("oars(0), 2 only at " + other, x.oars(0), 0);
            due("oars(1), 2 only at " + other, x.oars(1), NONE);
        }
        LeavingVote x = Edge.laid(Edge.people(4, 0, 15) + "b1;b2;b1;");
        for (int k = 0; k < 8; k++) {
            x.seen(k % 2, 3);
        }
        due("oars(0), 3 eight times", x.oars(0), 2);
        due("oars(1), 3 eight times", x.oars(1), 1);
        Edge.sentence("terms 4", "k left on a QUESTION (on each for itself)");
        x = Edge.laid("i0,1,0,0;i0,3,0,0;i0,3,0,0;i0,3,0,0;b1;b2;b3;d9;");
        x.seen(0, 4);
        due("oars(0), 4 on 0", x.oars(0), 3);
        due("oars(1), 4 on 0", x.oars(1), 0);
        x.seen(1, 3);
        due("oars(0), 3 on 1, too", x.oars(0), 3);
        x.forget();
        x.seen(1, 3);
        due("oars(0), 3 on 1", x.oars(0), 5);
        x.seen(0, 3);
        due("oars(0), 3 on 0, too", x.oars(0), 2);
        due("oars(1), 3 on 0, too", x.oars(1), 3);
    }

    private static void oarsNow() {
        Edge.sentence("terms 4", "(in place of those that are)");
        LeavingVote x = Edge.laid(Edge.people(8, 0, 255) + "b1;b2;b4;d9;");
        x.seen(0, 5);
        for (int b = 0; b < 3; b++) {
            x.hold(b);
            due("oars(0) with some held", x.oars(0), 1);
            due("oars(1) with some held", x.oars(1), 2);
        }
        due("count(2), still held", x.count(2), 3);
        due("leave(0)", x.leave(0), 0);
        Edge.sentence("terms 4", "(as all is now, but for BOATS that may be HELD)");
        x = Edge.laid(Edge.people(4, 0, 15) + "b1;b2;d9;");
        x.seen(0, 3);
        due("oars(0)", x.oars(0), 1);
        x.lean(0, 2);
        due("oars(0), three want to", x.oars(0), 1);
        x.lean(1, 2);
        due("oars(0), two want to", x.oars(0), 0);
        x.undo();
        x.weather(0);
        due("oars(0), storm", x.oars(0), 0);
        x.weather(1);
        due("oars(0), ice: whichever are held", x.oars(0), 4);
        due("oars(1), ice", x.oars(1), 0);
        x.forget();
        x.weather(1);
        x.seen(0, 0);
        due("oars(0), none left in a storm", x.oars(0), 4);
        x.weather(0);
        due("oars(0), none left, all held", x.oars(0), 1);
        due("oars(1), none left, all held", x.oars(1), 3);
        x = Edge.laid(Edge.people(4, 0, 15) + "b1;b2;d2;");
        x.seen(0, 2);
        due("oars(0), two beds", x.oars(0), 2);
        due("oars(1), two beds", x.oars(1), 0);
    }

    private static int common(int a, int b) {
        return b == 0 ? a : common(b, a % b);
    }

    private static void oddsDue(String call, LeavingVote x, int q, int above, int below) {
        int common = common(above, below);
        due("odds(" + q + ", 0), " + call, x.odds(q, 0), above / common);
        due("odds(" + q + ", 1), " + call, x.odds(q, 1), below / common);
    }

    private static void oddsOfOne() {
        Edge.sentence("terms 4", "does not want to by X of ten for himself");
        int[] above = {1, 9, 4, 7, 3, 1, 2, 3, 1, 1, 0};
        int[] below = {1, 10, 5, 10, 5, 2, 5, 10, 5, 10, 1};
        for (int s = 0; s <= 10; s++) {
            LeavingVote x = Edge.laid("i1,1,0,0;b1;h9;s" + s + ";");
            due("odds(0, 0) of s" + s, x.odds(0, 0), above[s]);
            due("odds(0, 1) of s" + s, x.odds(0, 1), below[s]);
            due("odds(1, 0) of s" + s, x.odds(1, 0), 0);
            due("odds(1, 1) of s" + s, x.odds(1, 1), 1);
        }
        Edge.sentence("promise 27", "above (part = 0), below (1); in lowest terms (never, always: 0 and 1 of 1)");
        oddsDue("nobody wants to", Edge.laid(Edge.people(8, 1, 0) + "b8;d9;h1;"), 0, 0, 1);
        oddsDue("no seasick one, it falls", Edge.laid(Edge.people(8, 0, 255) + "b8;d9;h9;"), 1, 1, 1);
        oddsDue("no seasick one, it does not", Edge.laid(Edge.people(8, 0, 127) + "b8;d9;h9;"), 1, 0, 1);
        oddsDue("eight, always", Edge.laid(Edge.people(8, 1, 255) + "b8;d9;h9;s0;"), 0, 1, 1);
        oddsDue("eight, never", Edge.laid(Edge.people(8, 1, 255) + "b8;d9;h1;s10;"), 0, 0, 1);
        oddsDue("enough others", Edge.laid(Edge.people(4, 1, 15) + Edge.people(4, 0, 15) + "b8;d9;h5;s7;"), 0, 1, 1);
        Edge.sentence("promise 27", "BAD");
        LeavingVote x = new LeavingVote();
        for (int far : Edge.FAR) {
            due("odds(" + far + ", 0)", x.odds(far, 0), BAD);
            due("odds(0, " + far + ")", x.odds(0, far), BAD);
        }
        for (int k = 2; k < 70; k++) {
            due("odds(" + k + ", 0)", x.odds(k, 0), BAD);
            due("odds(0, " + k + ")", x.odds(0, k), BAD);
        }
    }

    private static void oddsOfMany() {
        Edge.sentence("terms 4", "how likely a QUESTION FALLS, in lowest terms");
        for (int n = 1; n <= 8; n++) {
            for (int p = 1; p <= 9; p++) {
                for (int s = 0; s <= 10; s++) {
                    int[] ways = {1, 0, 0, 0, 0, 0, 0, 0, 0};
                    int below = 1;
                    for (int i = 0; i < n; i++) {
                        for (int k = i + 1; k >= 0; k--) {
                            ways[k] = ways[k] * s + (k > 0 ? ways[k - 1] * (10 - s) : 0);
                        }
                        below *= 10;
                    }
                    int above = 0;
                    for (int k = 0; k <= n; k++) {
                        above += 10 * k >= p * n ? ways[k] : 0;
                    }
                    LeavingVote x = Edge.laid(Edge.people(n, 1, Edge.all(n)) + "b8;d9;h" + p + ";s" + s + ";");
                    oddsDue(n + " by " + p + ", s" + s, x, (n + p) % 2, above, below);
                }
            }
        }
        LeavingVote x = Edge.laid(Edge.people(8, 1, 255) + "b8;d9;h9;s1;");
        due("odds(0, 0), the largest", x.odds(0, 0), 43046721);
        due("odds(0, 1), the largest", x.odds(0, 1), 100000000);
        due("odds(1, 0), the least", Edge.laid(Edge.people(8, 1, 255) + "b8;d9;h9;s9;").odds(1, 0), 1);
    }

    private static void oddsOfWhom() {
        Edge.sentence("terms 4", "each SEASICK one who wants to leave");
        oddsDue("who doesn't want to is not asked", Edge.laid("i1,0,0,0;i1,1,0,0;i1,2,0,0;b8;h3;s5;"), 0, 1, 2);
        oddsDue("whether he had a seat or not", Edge.laid("i0,1,0,0;i1,1,0,0;b1;h5;s5;"), 0, 1, 1);
        oddsDue("who takes the seat before another", Edge.laid("i1,1,0,0;i0,1,0,0;b1;h5;s5;"), 0, 1, 1);
        oddsDue("two of three, two seats", Edge.laid("i1,1,0,0;i1,1,0,0;i0,1,0,0;b2;h6;s5;"), 0, 3, 4);
        oddsDue("two of three, two beds", Edge.laid("i1,1,0,0;i1,1,0,0;i0,1,0,0;b8;d2;h6;s5;"), 0, 3, 4);
        oddsDue("who has a seat only if another stays", Edge.laid("i1,1,0,0;i1,1,0,0;b1;h5;s5;"), 0, 3, 4);
        oddsDue("who has a bed only if another stays", Edge.laid("i1,1,0,0;i1,1,0,0;b2;d1;h5;s5;"), 0, 3, 4);
        oddsDue("who has a bed only if another stays, by ice", Edge.iced("i1,1,0,0;i1,1,0,0;d1;h5;s5;"), 0, 3, 4);
        oddsDue("two of three, a seat", Edge.laid("i1,1,0,0;i1,1,0,0;i0,1,0,0;b1;h6;s5;"), 0, 0, 1);
        LeavingVote x = Edge.stormy("i1,1,0,0;i1,1,0,0;b8;h1;");
        oddsDue("a storm", x, 0, 0, 1);
        Edge.sentence("terms 4", "(by ICE, too)");
        oddsDue("ice", Edge.iced("i1,1,0,0;h1;s4;"), 0, 3, 5);
        x.weather(1);
        oddsDue("ice and a storm", x, 0, 91, 100);
        oddsDue("ice, a lame one is sure", Edge.iced("i3,1,0,0;i1,1,0,0;h5;s4;"), 0, 1, 1);
        oddsDue("ice, a lame one is not enough", Edge.iced("i3,1,0,0;i1,1,0,0;h6;s4;"), 0, 3, 5);
        Edge.sentence("terms 4", "for himself");
        oddsDue("one of two", Edge.laid("i1,1,0,0;i1,1,0,0;b8;h5;s2;"), 0, 24, 25);
        oddsDue("both of two", Edge.laid("i1,1,0,0;i1,1,0,0;b8;h9;s2;"), 0, 16, 25);
        Edge.sentence("terms 4", "(COUSINS go by what he does)");
        oddsDue("seven cousins", Edge.laid("i1,1,0,0;" + Edge.times(7, "i2,0,0,0;") + "b8;d9;h9;s2;"), 0, 4, 5);
        oddsDue("a cousin of a cousin", Edge.laid("i2,1,1,0;i2,1,2,0;i1,1,0,0;b8;h9;s10;"), 0, 0, 1);
        oddsDue("a cousin of one who is not sick", Edge.laid("i2,0,1,0;i0,1,0,0;i1,1,0,0;b8;h6;s10;"), 0, 1, 1);
        oddsDue("a cousin by himself", Edge.laid("i2,1,0,0;i1,1,0,0;b8;h5;s10;"), 0, 1, 1);
        x = Edge.iced("i2,1,1,0;i1,1,0,0;b8;h9;s5;");
        oddsDue("by ice by his own leaning", x, 0, 1, 2);
        x.lean(0, 0);
        oddsDue("by ice by his own leaning", x, 0, 0, 1);
        x.weather(1);
        oddsDue("once it ends by the other's", x, 0, 1, 2);
    }

    private static void asked() {
        Edge.sentence("terms 4", "for a set of ISLANDERS (bits): QUESTIONS (bits) on which just these would LEAVE");
        LeavingVote x = Edge.laid("i0,1,0,0;i0,3,0,0;i0,2,0,0;i0,0,0,0;b8;");
        for (int set = 0; set < 16; set++) {
            due("asked(" + set + ")", x.asked(set), set == 3 ? 1 : set == 6 ? 2 : 0);
        }
        x.lean(0, 3);
        x.lean(2, 3);
        for (int set = 0; set < 16; set++) {
            due("asked(" + set + ") of both alike", x.asked(set), set == 7 ? 3 : 0);
        }
        Edge.sentence("terms 4", "just these (nobody; all)");
        for (int n = 1; n <= 8; n++) {
            x = Edge.laid(Edge.times(n, "i0,1,0,0;") + "b8;d9;");
            due("asked(nobody) of " + n, x.asked(0), 2);
            due("asked(all) of " + n, x.asked(Edge.all(n)), 1);
            x.weather(0);
            due("asked(nobody) of " + n + " in a storm", x.asked(0), 3);
        }
        Edge.sentence("terms 4", "would LEAVE (not want to)");
        x = Edge.laid(Edge.people(4, 0, 15) + "b2;");
        due("asked(those who want to)", x.asked(15), 0);
        due("asked(those who leave)", x.asked(3), 3);
        Edge.sentence("promise 28", "BAD (sets of ISLANDERS there are not)");
        for (int n = 1; n <= 8; n++) {
            x = Edge.laid(Edge.times(n, "i0,0,0,0;"));
            due("asked(0) of " + n, x.asked(0), 3);
            due("asked(all) of " + n, x.asked(Edge.all(n)), 0);
            due("asked(all and one more) of " + n, x.asked(1 << n), BAD);
            due("asked(one too many) of " + n, x.asked(Edge.all(n + 1)), BAD);
            due("asked(-1) of " + n, x.asked(-1), BAD);
            for (int bit = n; bit < 32; bit++) {
                due("asked(" + (1 << bit) + ") of " + n, x.asked(1 << bit), BAD);
                due("asked(" + (1 << bit | 1) + ") of " + n, x.asked(1 << bit | 1), BAD);
            }
            for (int far : Edge.FAR) {
                due("asked(" + far + ") of " + n, x.asked(far), BAD);
            }
        }
    }

    private static void monthsBounds() {
        LeavingVote x = Edge.laid("i0,3,0,1;b1;m1;");
        Edge.sentence("terms 4", "z (0 to 9999)");
        for (int what = 0; what < 2; what++) {
            due("months(-1, 1)", x.months(-1, 1, what), BAD);
            due("months(0, 1)", x.months(0, 1, what), 1 - what);
            due("months(9999, 60)", x.months(9999, 60, what) < 0 ? BAD : 0, 0);
            due("months(10000, 1)", x.months(10000, 1, what), BAD);
        }
        Edge.sentence("terms 4", "n (1 to 60) of them");
        for (int what = 0; what < 2; what++) {
            due("months(0, 0)", x.months(0, 0, what), BAD);
            due("months(0, -1)", x.months(0, -1, what), BAD);
            due("months(0, 61)", x.months(0, 61, what), BAD);
            for (int n = 1; n <= 60; n++) {
                due("months(0, " + n + ") is told", x.months(0, n, what) < 0 ? BAD : 0, 0);
            }
        }
        due("all fall or are milked", x.months(7, 60, 0) + x.months(7, 60, 1), 60);
        Edge.sentence("promise 29", "FALLS (what = 0), MILKED (1). BAD");
        x = new LeavingVote();
        for (int far : Edge.FAR) {
            due("months(" + far + ", 1, 0)", x.months(far, 1, 0), far == 10000 || far < 0 || far > 9999 ? BAD : 0);
            due("months(0, " + far + ", 0)", x.months(0, far, 0), BAD);
            due("months(0, 1, " + far + ")", x.months(0, 1, far), BAD);
        }
        for (int k = 2; k < 70; k++) {
            due("months(0, 1, " + k + ")", x.months(0, 1, k), BAD);
            due("months(0, " + (59 + k) + ", 0)", x.months(0, 59 + k, 0), BAD);
        }
    }

    private static int drawOf(int z, int month) {
        long x = 7919L * z + 6151L * month + 1;
        return (int) (x * x % 65521 / 2);
    }

    /** How an ISLAND of one, told by kind and leaning, fares in a month: does the law fall? */
    private static boolean gone(int kind, int leaning, int draw) {
        boolean storm = draw % 4 == 0;
        boolean ice = draw % 7 == 0;
        boolean against = (leaning >> draw / 8 % 2 & 1) == 1;
        return against && (ice || !storm && kind != 3);
    }

    private static void monthsDraws() {
        Edge.sentence("terms 4", "in each there is a STORM if DRAW is parted by 4, ICE if by 7 (both: both), and QUESTION (DRAW by 8, cut, modulo 2) is asked");
        String[] texts = {"i0,1,0,1;b1;m1;", "i0,2,0,1;b1;m1;", "i3,1,0,1;b1;m1;", "i3,2,0,1;b1;m1;", "i0,3,0,1;b1;m1;"};
        int[] seenKinds = new int[8];
        for (int t = 0; t < texts.length; t++) {
            int kind = t == 2 || t == 3 ? 3 : 0;
            int leaning = t == 4 ? 3 : t % 2 + 1;
            for (int from = 0; from < 3; from++) {
                LeavingVote x = Edge.laid(texts[t]);
                for (int k = 0; k < 100; k++) {
                    int z = from == 0 ? k : from == 1 ? 9999 - k : k * 97;
                    int draw = drawOf(z, 0);
                    int gone = gone(kind, leaning, draw) ? 1 : 0;
                    due("months(" + z + ", 1, 0), draw " + draw + " of " + texts[t], x.months(z, 1, 0), gone);
                    due("months(" + z + ", 1, 1), draw " + draw + " of " + texts[t], x.months(z, 1, 1), 1 - gone);
                    seenKinds[(draw % 4 == 0 ? 1 : 0) + (draw % 7 == 0 ? 2 : 0) + draw / 8 % 2 * 4]++;
                }
            }
        }
        for (int k = 0; k < 8; k++) {
            due("draws of sort " + k + " are there", seenKinds[k] > 0 ? 1 : 0, 1);
        }
        Edge.sentence("terms 4", "x 7919 z, 6151 (the month, 0 first) and 1 together");
        for (int z : new int[] {0, 1, 2, 77, 5000, 9998, 9999}) {
            for (int t = 0; t < texts.length; t++) {
                LeavingVote x = Edge.laid(texts[t]);
                int falls = 0;
                for (int n = 1; n <= 60; n++) {
                    falls += gone(t == 2 || t == 3 ? 3 : 0, t == 4 ? 3 : t % 2 + 1, drawOf(z, n - 1)) ? 1 : 0;
                    due("months(" + z + ", " + n + ", 0) of " + texts[t], x.months(z, n, 0), falls);
                    due("months(" + z + ", " + n + ", 1) of " + texts[t], x.months(z, n, 1), n - falls);
                }
            }
        }
        Edge.sentence("terms 4", "(both: both; in the first month of z = 0 DRAW is 0)");
        due("months(0, 1, 0), a lame one against 0", Edge.laid("i3,1,0,1;").months(0, 1, 0), 1);
        due("months(0, 1, 0), a lame one against 1", Edge.laid("i3,2,0,1;").months(0, 1, 0), 0);
    }

    private static void monthsElse() {
        Edge.sentence("terms 4", "all else as it is");
        String text = "i0,1,0,2;i2,3,0,0;i3,3,0,4;i1,2,0,3;i0,2,0,1;b1;b1;d3;m6;h4;";
        for (int change = 0; change < 6; change++) {
            LeavingVote x = Edge.laid(text);
            LeavingVote y = Edge.laid(text);
            for (LeavingVote one : new LeavingVote[] {x, y}) {
                switch (change) {
                    case 0: one.hold(0); break;
                    case 1: one.lean(0, 2); break;
                    case 2: one.mind(1, 4); break;
                    case 3: one.weather(0); break;
                    case 4: one.weather(1); break;
                    default: break;
                }
            }
            int falls = 0;
            int milked = 0;
            for (int month = 0; month < 60; month++) {
                int draw = drawOf(4321, month);
                if (y.count(3) != (draw % 4 == 0 ? 1 : 0)) {
                    y.weather(0);
                }
                if (y.count(4) != (draw % 7 == 0 ? 1 : 0)) {
                    y.weather(1);
                }
                falls += y.falls(draw / 8 % 2);
                milked += y.milked(draw / 8 % 2, 1);
            }
            due("months(4321, 60, 0) after change " + change, x.months(4321, 60, 0), falls);
            due("months(4321, 60, 1) after change " + change, x.months(4321, 60, 1), milked);
            due("count(3)", x.count(3), change == 3 ? 1 : 0);
            due("count(4)", x.count(4), change == 4 ? 1 : 0);
            due("count(9)", x.count(9), change == 5 ? 0 : 1);
        }
    }

    private static void keep() {
        Edge.sentence("terms 4", "KEPT ..: 2 at most");
        LeavingVote x = new LeavingVote();
        due("keep()", x.keep(), 1);
        due("count(10)", x.count(10), 1);
        due("keep()", x.keep(), 2);
        due("count(10)", x.count(10), 2);
        Edge.sentence("promise 30", "FULL");
        due("keep()", x.keep(), FULL);
        due("keep()", x.keep(), FULL);
        due("count(10)", x.count(10), 2);
        Edge.sentence("promise 30", "FULL (nothing changes then)");
        x = new LeavingVote();
        x.lean(0, 0);
        x.keep();
        x.lean(0, 2);
        x.keep();
        x.lean(0, 3);
        due("keep()", x.keep(), FULL);
        due("islander(0, 1)", x.islander(0, 1), 3);
        due("count(9)", x.count(9), 3);
        due("back()", x.back(), 1);
        due("islander(0, 1)", x.islander(0, 1), 2);
        due("keep() once there is room", x.keep(), 2);
        due("keep()", x.keep(), FULL);
        due("back()", x.back(), 1);
        due("back()", x.back(), 0);
        due("islander(0, 1)", x.islander(0, 1), 0);
        Edge.sentence("promise 30", "KEPT: how many (and what can be UNDONE stays)");
        x = new LeavingVote();
        x.lean(0, 0);
        x.hold(0);
        x.keep();
        due("count(9)", x.count(9), 2);
        due("undo()", x.undo(), 1);
        due("undo()", x.undo(), 0);
        due("count(10)", x.count(10), 1);
        due("back()", x.back(), 0);
        due("islander(0, 1)", x.islander(0, 1), 0);
        due("boat(0, 1)", x.boat(0, 1), 1);
    }

    private static void back() {
        Edge.sentence("terms 4", "KEPT are LEANINGS, minds, HELD BOATS, STORM, ICE");
        String text = Edge.people(8, 2, 0b01011010) + Edge.times(5, "b1;");
        for (int i = 0; i < 8; i++) {
            LeavingVote x = Edge.laid(text);
            int leaning = x.islander(i, 1);
            x.keep();
            x.lean(i, 1);
            due("back()", x.back(), 0);
            due("islander(" + i + ", 1)", x.islander(i, 1), leaning);
            x.mind(i, 7);
            x.keep();
            x.mind(i, 3);
            due("back()", x.back(), 0);
            due("islander(" + i + ", 2)", x.islander(i, 2), 7);
        }
        for (int b = 0; b < 5; b++) {
            LeavingVote x = Edge.laid(text);
            x.keep();
            x.hold(b);
            x.keep();
            x.hold(b);
            due("back()", x.back(), 1);
            due("boat(" + b + ", 1)", x.boat(b, 1), 1);
            due("back()", x.back(), 0);
            due("boat(" + b + ", 1)", x.boat(b, 1), 0);
        }
        for (int what = 0; what < 2; what++) {
            LeavingVote x = Edge.laid(text);
            x.keep();
            x.weather(what);
            x.keep();
            x.weather(what);
            due("back()", x.back(), 1);
            due("count(3)", x.count(3), 1 - what);
            due("count(4)", x.count(4), what);
            due("back()", x.back(), 0);
            due("count(3)", x.count(3), 0);
            due("count(4)", x.count(4), 0);
        }
        Edge.sentence("terms 4", "KEPT are .. (not what is SEEN nor THE TEXT)");
        LeavingVote x = new LeavingVote();
        x.seen(0, 1);
        x.write('a');
        x.keep();
        x.seen(0, 2);
        x.write('b');
        x.back();
        due("count(8)", x.count(8), 2);
        due("count(11)", x.count(11), 2);
        Edge.sentence("promise 31", "nothing is UNDONE then");
        x = new LeavingVote();
        x.lean(0, 0);
        x.keep();
        x.lean(0, 2);
        due("back()", x.back(), 0);
        due("count(9)", x.count(9), 0);
        due("undo()", x.undo(), NO);
        due("islander(0, 1)", x.islander(0, 1), 0);
        x.lean(0, 3);
        due("undo() of what came after", x.undo(), 0);
        due("undo()", x.undo(), NO);
        due("islander(0, 1)", x.islander(0, 1), 0);
    }

    private static void backOrder() {
        Edge.sentence("promise 31", "As KEPT last: how many are left");
        LeavingVote x = new LeavingVote();
        x.lean(0, 0);
        x.keep();
        x.lean(0, 2);
        x.keep();
        x.lean(0, 3);
        due("back()", x.back(), 1);
        due("islander(0, 1)", x.islander(0, 1), 2);
        due("count(10)", x.count(10), 1);
        x.lean(0, 1);
        due("back()", x.back(), 0);
        due("islander(0, 1)", x.islander(0, 1), 0);
        due("count(10)", x.count(10), 0);
        Edge.sentence("promise 31", "NO");
        due("back()", x.back(), NO);
        due("back()", x.back(), NO);
        due("back() of a new object", new LeavingVote().back(), NO);
        Edge.sentence("promise 31", "NO (nothing changes then)");
        x.lean(0, 2);
        due("back()", x.back(), NO);
        due("islander(0, 1)", x.islander(0, 1), 2);
        due("count(9)", x.count(9), 1);
        due("count(10)", x.count(10), 0);
        due("undo()", x.undo(), 0);
        due("keep()", x.keep(), 1);
        Edge.sentence("promise 31", "As KEPT last (many times, two at most)");
        for (int k = 0; k < 50; k++) {
            x.lean(0, k % 4);
            due("keep()", x.keep(), 2);
            due("keep()", x.keep(), FULL);
            x.lean(0, (k + 1) % 4);
            due("back()", x.back(), 1);
            due("islander(0, 1)", x.islander(0, 1), k % 4);
        }
        due("back()", x.back(), 0);
        due("islander(0, 1)", x.islander(0, 1), 0);
    }

    private static void countDue(LeavingVote x, int... counts) {
        for (int what = 0; what < counts.length; what++) {
            due("count(" + what + ")", x.count(what), counts[what]);
        }
    }

    private static void count() {
        Edge.sentence("promise 32", "0 ISLANDERS, 1 BOATS, .. 5 BEDS, 6 M, 7 P, .. 11 letters of THE TEXT (the least)");
        LeavingVote x = Edge.laid("i0,0,0,0;d0;m0;h1;");
        countDue(x, 1, 0, 0, 0, 0, 0, 0, 1, 0, 0, 0, 18);
        x.wipe();
        due("count(11)", x.count(11), 0);
        Edge.sentence("promise 32", "How many (the most)");
        x = Edge.laid(Edge.people(8, 0, 0) + Edge.times(5, "b8;") + "d9;m40;h9;");
        for (int b = 0; b < 5; b++) {
            x.hold(b);
        }
        x.weather(0);
        x.weather(1);
        x.lean(0, 1);
        x.mind(0, 1);
        for (int k = 0; k < 9; k++) {
            x.seen(0, 8);
            x.keep();
        }
        int letters = x.count(11);
        due("count(11)", letters, 97);
        for (int k = letters; k < 210; k++) {
            x.write('z');
        }
        countDue(x, 8, 5, 5, 1, 1, 9, 40, 9, 8, 8, 2, 200);
        Edge.sentence("promise 32", "2 HELD, 3 STORM (1, 0), 4 ICE, 8 SEEN, 9 that can be UNDONE, 10 KEPT (each for itself)");
        x = new LeavingVote();
        x.hold(1);
        countDue(x, 8, 2, 1, 0, 0, 4, 6, 5, 0, 1, 0, 0);
        x.undo();
        countDue(x, 8, 2, 0, 0, 0, 4, 6, 5, 0, 0, 0, 0);
        x.weather(0);
        countDue(x, 8, 2, 0, 1, 0, 4, 6, 5, 0, 1, 0, 0);
        x.weather(1);
        countDue(x, 8, 2, 0, 1, 1, 4, 6, 5, 0, 2, 0, 0);
        x.seen(1, 1);
        countDue(x, 8, 2, 0, 1, 1, 4, 6, 5, 1, 2, 0, 0);
        x.keep();
        countDue(x, 8, 2, 0, 1, 1, 4, 6, 5, 1, 2, 1, 0);
        x.write(32);
        countDue(x, 8, 2, 0, 1, 1, 4, 6, 5, 1, 2, 1, 1);
        Edge.sentence("promise 32", "BAD");
        for (int far : Edge.FAR) {
            due("count(" + far + ")", x.count(far), BAD);
        }
        for (int what = 12; what < 90; what++) {
            due("count(" + what + ")", x.count(what), BAD);
        }
    }
}
