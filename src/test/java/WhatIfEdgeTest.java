/** The edges that section 3 of the terms and promises 18 to 23 name, a sentence at a time. */
public final class WhatIfEdgeTest {
    private static final int BAD = Edge.BAD, NONE = Edge.NONE;

    public static void main(String[] args) {
        decides();
        decidesByOthers();
        win();
        winNone();
        winLowest();
        fill();
        fillRoom();
        fillNone();
        beds();
        help();
        helpMost();
        both();
        bothWeather();
        refused();
        Edge.end("WhatIfEdgeTest");
    }

    private static void due(String call, int got, int want) {
        Edge.due(call, got, want);
    }

    /** How many have to LEAVE at least that a law FALLS. */
    private static int needed(int n, int p) {
        int k = 0;
        while (10 * k < p * n) {
            k++;
        }
        return k;
    }

    /** The lowest of a set, so many of them. */
    private static int lowest(int set, int number) {
        int chosen = 0;
        for (int i = 0; i < 8 && Integer.bitCount(chosen) < number; i++) {
            chosen |= set & 1 << i;
        }
        return chosen;
    }

    private static void decides() {
        Edge.sentence("terms 3", "ISLANDERS by whom alone, were he against it where he is not, or not where he is, it would FALL or not, otherwise than now");
        for (int n = 1; n <= 8; n++) {
            for (int p = 1; p <= 9; p++) {
                int need = needed(n, p);
                for (int k = 0; k <= n; k++) {
                    int against = Edge.all(n) & ~Edge.all(n - k);
                    int want = k == need ? against : k == need - 1 ? Edge.all(n) & ~against : 0;
                    LeavingVote x = Edge.laid(Edge.people(n, (n + k) % 2, against) + "b8;d9;h" + p + ";");
                    due("decides(0), " + k + " of " + n + " by " + p, x.decides(0), want);
                    due("decides(1), " + k + " of " + n + " by " + p, x.decides(1), want);
                }
            }
        }
        Edge.sentence("terms 3", "(bits): on that QUESTION, not on the other");
        LeavingVote x = Edge.laid("i0,1,0,0;i0,1,0,0;i0,2,0,0;i0,0,0,0;b8;h5;");
        due("decides(0)", x.decides(0), 0b0011);
        due("decides(1)", x.decides(1), 0b1011);
        due("falls(0)", x.falls(0), 1);
        due("falls(1)", x.falls(1), 0);
        Edge.sentence("terms 3", "by whom alone (none, for want of a seat, of a bed, in a STORM)");
        due("three seats", Edge.laid(Edge.people(8, 0, 7) + "b3;d8;").decides(0), 0);
        due("four seats", Edge.laid(Edge.people(8, 0, 7) + "b4;d8;").decides(0), 0b11111000);
        due("three beds", Edge.laid(Edge.people(8, 0, 7) + "b8;d3;").decides(0), 0);
        due("four beds", Edge.laid(Edge.people(8, 0, 7) + "b8;d4;").decides(0), 0b11111000);
        due("five want, four beds", Edge.laid(Edge.people(8, 0, 31) + "b8;d4;").decides(0), 0);
        due("a storm", Edge.stormy(Edge.people(8, 0, 7) + "b8;d8;").decides(0), 0);
        x = Edge.laid(Edge.people(8, 0, 7) + "b3;b1;d8;");
        x.hold(1);
        due("a boat held", x.decides(0), 0);
    }

    private static void decidesByOthers() {
        Edge.sentence("terms 3", "by whom alone (a LAME one never, but by ICE)");
        String text = "i3,0,0,0;i3,3,0,0;i0,0,0,0;i0,3,0,0;b8;h5;";
        LeavingVote x = Edge.laid(text);
        due("decides(0), one wants, two must", x.decides(0), 0b0100);
        x.weather(1);
        due("decides(0) by ice, two want, two must", x.decides(0), 0b1010);
        x.weather(0);
        due("decides(0) by ice in a storm", x.decides(0), 0b1010);
        Edge.sentence("terms 3", "by whom alone (a COUSIN by his own LEANING only if he comes round; by ICE)");
        x = Edge.laid("i2,0,3,0;i2,0,0,0;i2,0,2,0;i0,0,0,0;b8;h5;");
        due("decides(0), two go by 3", x.decides(0), 0b1000);
        x.lean(0, 1);
        due("decides(0), a cousin's leaning", x.decides(0), 0b1000);
        x.mind(1, 2);
        x.lean(0, 0);
        due("decides(0), one by 2, one by 3", x.decides(0), 0b1100);
        x.weather(1);
        due("decides(0) by ice", x.decides(0), 0);
        x.lean(0, 1);
        due("decides(0) by ice, one is against", x.decides(0), 0b1110);
    }

    private static void win() {
        Edge.sentence("terms 3", "WIN: the fewest ISLANDERS whose LEANING on a QUESTION has to be changed so that it FALLS, if it does not");
        for (int n = 1; n <= 8; n++) {
            for (int p = 1; p <= 9; p++) {
                int need = needed(n, p);
                for (int against = n % 3; against < 1 << n; against += n < 6 ? 1 : 19) {
                    int k = Integer.bitCount(against);
                    LeavingVote x = Edge.laid(Edge.people(n, 0, against) + "b8;d9;h" + p + ";");
                    int want = k < need ? lowest(Edge.all(n) & ~against, need - k) : lowest(against, k - need + 1);
                    due("win(0) against " + against + " of " + n + " by " + p, x.win(0), want);
                    due("win(1) against " + against + " of " + n + " by " + p, x.win(1), want);
                }
            }
        }
        Edge.sentence("terms 3", "so that it FALLS, if it does not (one; all)");
        due("win(0), one", Edge.laid("i0,0,0,0;b1;h9;").win(0), 1);
        due("win(0), all eight", Edge.laid(Edge.people(8, 0, 0) + "b8;d8;h9;").win(0), 255);
        due("win(0), the last only", Edge.laid(Edge.people(7, 3, 127) + "i0,0,0,0;b8;h1;").win(0), 128);
        Edge.sentence("terms 3", "or does not, if it does (one; all)");
        due("win(0), one", Edge.laid("i0,1,0,0;b1;h9;").win(0), 1);
        due("win(0), all eight", Edge.laid(Edge.people(8, 0, 255) + "b8;d8;h1;").win(0), 255);
        due("win(0), the last only", Edge.laid(Edge.people(7, 3, 0) + "i0,1,0,0;b8;h1;").win(0), 128);
        due("win(0), four beds, of eight five", Edge.laid(Edge.people(8, 0, 255) + "b8;d4;").win(0), 31);
        due("win(0), four seats, of eight five", Edge.laid(Edge.people(8, 0, 255) + "b4;d8;").win(0), 31);
        Edge.sentence("terms 3", "whose LEANING on a QUESTION (on that one only)");
        LeavingVote x = Edge.laid("i0,1,0,0;i0,2,0,0;b8;h5;");
        due("win(0)", x.win(0), 1);
        due("win(1)", x.win(1), 2);
        due("islander(0, 1)", x.islander(0, 1), 1);
    }

    private static void winNone() {
        Edge.sentence("promise 19", "NONE");
        due("all lame", Edge.laid(Edge.people(8, 3, 255) + "b8;h1;").win(0), NONE);
        due("no boat", Edge.laid(Edge.people(8, 0, 255) + "h1;").win(0), NONE);
        due("no bed", Edge.laid(Edge.people(8, 0, 255) + "b8;d0;h1;").win(0), NONE);
        due("one seat short", Edge.laid(Edge.people(8, 0, 0) + "b3;d9;").win(0), NONE);
        due("just the seats", Edge.laid(Edge.people(8, 0, 0) + "b4;d9;").win(0), 15);
        due("one bed short", Edge.laid(Edge.people(8, 0, 0) + "b8;d3;").win(0), NONE);
        due("just the beds", Edge.laid(Edge.people(8, 0, 0) + "b8;d4;").win(0), 15);
        due("a storm", Edge.stormy(Edge.people(8, 0, 0) + "b8;d9;h1;").win(0), NONE);
        due("half are lame", Edge.laid(Edge.people(4, 0, 0) + Edge.people(4, 3, 0) + "b8;d9;").win(0), 15);
        due("one more is lame", Edge.laid(Edge.people(3, 0, 0) + Edge.people(5, 3, 0) + "b8;d9;").win(0), NONE);
        due("lame ones by ice", Edge.iced(Edge.people(8, 3, 0) + "h3;").win(0), 7);
        LeavingVote x = Edge.laid("i0,0,0,0;b1;");
        x.hold(0);
        due("the boat held", x.win(0), NONE);
        x.hold(0);
        due("the boat let go", x.win(0), 1);
        Edge.sentence("promise 19", "NONE; BAD (of several the first)");
        x = Edge.stormy(Edge.people(8, 0, 0));
        due("win(2)", x.win(2), BAD);
        due("win(-1)", x.win(-1), BAD);
        due("win(1)", x.win(1), NONE);
    }

    private static void winLowest() {
        Edge.sentence("terms 3", "of several sets the lowest");
        LeavingVote x = Edge.laid("i0,0,0,0;i0,0,0,0;i0,0,0,0;i0,0,0,0;i2,0,1,0;i2,0,2,0;i2,0,3,0;i2,0,3,0;b8;d9;h5;");
        due("win(0), 1 and 2 rather than 0 and 3", x.win(0), 0b0110);
        x = Edge.laid("i0,0,0,0;i0,0,0,0;i0,0,0,0;i0,0,0,0;i2,0,7,0;i2,0,7,0;i2,0,7,0;i0,0,0,0;b8;d9;h5;");
        due("win(0), 7 alone rather than four", x.win(0), 0b10000000);
        x = Edge.laid("i2,0,2,0;i2,0,3,0;i0,0,0,0;i0,0,0,0;b8;h5;");
        due("win(0), 2 rather than 3", x.win(0), 0b0100);
        x = Edge.laid("i2,0,1,0;i2,0,0,0;i0,0,0,0;i0,0,0,0;b8;h5;");
        due("win(0), two who come round", x.win(0), 0b0011);
        x = Edge.laid("i2,1,2,0;i2,1,2,0;i0,1,0,0;i0,1,0,0;i0,0,0,0;i0,0,0,0;b8;h5;");
        due("win(0), by the one whom two go by", x.win(0), 0b000100);
    }

    private static void fill() {
        Edge.sentence("terms 3", "FILL: the fewest ISLANDERS by whose leaving alone a law would FALL");
        for (int n = 1; n <= 8; n++) {
            for (int p = 1; p <= 9; p++) {
                int need = needed(n, p);
                due("fill() of " + n + " by " + p, Edge.laid(Edge.people(n, 0, 0) + "b8;d9;h" + p + ";").fill(), Edge.all(need));
            }
        }
        Edge.sentence("terms 3", "whatever they lean to");
        for (int kind = 0; kind < 3; kind++) {
            due("none against", Edge.laid(Edge.people(4, kind, 0) + "b8;").fill(), 3);
            due("all against", Edge.laid(Edge.people(4, kind, 15) + "b8;").fill(), 3);
            due("the higher against", Edge.laid(Edge.people(4, kind, 12) + "b8;").fill(), 3);
        }
        Edge.sentence("terms 3", "and cows be MILKED (by those who stay)");
        for (int m = 0; m <= 9; m++) {
            due("four of eight go, m" + m, Edge.laid(Edge.people(8, 0, 0) + "b8;m" + m + ";").fill(), m <= 4 ? 15 : NONE);
        }
        for (int m = 0; m <= 40; m++) {
            LeavingVote x = Edge.laid("i0,0,0,8;i0,0,0,6;i1,0,0,0;i3,0,0,9;i3,0,0,9;i0,0,0,1;b8;h3;m" + m + ";");
            int want = m <= 19 ? 0b000011 : m <= 25 ? 0b000101 : m <= 27 ? 0b000110 : m <= 32 ? 0b100100 : NONE;
            due("two of six go, m" + m, x.fill(), want);
        }
        Edge.sentence("terms 3", "of several sets the lowest (bits)");
        due("1 and 2 rather than 0 and 3", Edge.laid("i0,0,0,3;i0,0,0,1;i0,0,0,2;i0,0,0,0;b8;m3;").fill(), 0b0110);
        due("the highest only", Edge.laid(Edge.times(7, "i0,0,0,9;") + "i0,0,0,0;b1;h1;m40;").fill(), 1);
        due("the one without cows", Edge.laid("i0,0,0,9;i0,0,0,9;i0,0,0,9;i0,0,0,0;b1;h1;m27;").fill(), 0b1000);
        due("the one without cows, a cow short", Edge.laid("i0,0,0,9;i0,0,0,9;i0,0,0,9;i0,0,0,0;b1;h1;m28;").fill(), NONE);
    }

    private static void fillRoom() {
        Edge.sentence("terms 3", "for whom there are seats and BEDS");
        for (int room = 0; room <= 8; room++) {
            int want = room >= 4 ? 15 : NONE;
            String boat = room == 0 ? "" : "b" + room + ";";
            due("fill() of " + room + " seats", Edge.laid(Edge.people(8, 0, 0) + boat + "d9;").fill(), want);
            due("fill() of " + room + " beds", Edge.laid(Edge.people(8, 0, 0) + "b8;d" + room + ";").fill(), want);
            due("fill() of " + room + " beds by ice", Edge.iced(Edge.people(8, 0, 0) + "d" + room + ";").fill(), want);
        }
        due("fill() of all, seven beds", Edge.laid(Edge.people(8, 0, 0) + "b8;d7;h9;").fill(), NONE);
        due("fill() of all, eight beds", Edge.laid(Edge.people(8, 0, 0) + "b8;d8;h9;").fill(), 255);
        due("fill() of all, nine beds", Edge.laid(Edge.people(8, 0, 0) + "b8;d9;h9;").fill(), 255);
        due("fill() of all, seats in five boats", Edge.laid(Edge.people(8, 0, 0) + "b1;b2;b1;b2;b2;d8;h9;").fill(), 255);
        due("fill() of all, a seat short", Edge.laid(Edge.people(8, 0, 0) + "b1;b2;b1;b2;b1;d8;h9;").fill(), NONE);
        Edge.sentence("terms 3", "for whom there are seats (in BOATS that are not HELD)");
        LeavingVote x = Edge.laid(Edge.people(8, 0, 0) + "b3;b1;b1;d9;");
        int[] seats = {3, 1, 1};
        for (int b = 0; b < 3; b++) {
            x.hold(b);
            due("fill() with " + b + " held", x.fill(), 5 - seats[b] >= 4 ? 15 : NONE);
            x.hold(b);
        }
        due("fill() with none held", x.fill(), 15);
        Edge.sentence("terms 3", "none LAME");
        due("half are lame", Edge.laid(Edge.people(4, 3, 0) + Edge.people(4, 0, 0) + "b8;").fill(), 0b11110000);
        due("one more is lame", Edge.laid(Edge.people(5, 3, 0) + Edge.people(3, 0, 0) + "b8;").fill(), NONE);
        due("each second one is lame", Edge.laid(Edge.times(4, "i3,0,0,0;i2,0,0,0;") + "b8;").fill(), 0b10101010);
        Edge.sentence("terms 3", "(but by ICE)");
        due("all are lame", Edge.iced(Edge.people(8, 3, 0) + "d9;").fill(), 15);
        due("all are lame, all must", Edge.iced(Edge.people(8, 3, 0) + "d9;h9;").fill(), 255);
        x = Edge.iced(Edge.people(4, 3, 0) + Edge.people(4, 0, 0) + "b8;");
        due("half are lame", x.fill(), 0b00001111);
        x.hold(0);
        due("the boat held", x.fill(), 0b00001111);
        x.weather(1);
        due("the boat held, the ice at its end", x.fill(), NONE);
        Edge.sentence("terms 3", "(STORMS do not matter)");
        due("a storm", Edge.stormy(Edge.people(8, 0, 0) + "b4;d4;m4;").fill(), 15);
        x = Edge.stormy(Edge.people(4, 3, 0) + Edge.people(4, 0, 0) + "b8;");
        due("a storm, half are lame", x.fill(), 0b11110000);
        x.weather(1);
        due("a storm and ice, half are lame", x.fill(), 0b00001111);
    }

    private static void fillNone() {
        Edge.sentence("promise 20", "NONE");
        due("no seat", Edge.laid("i0,1,0,0;").fill(), NONE);
        due("no bed", Edge.laid("i0,1,0,0;b1;d0;").fill(), NONE);
        due("no bed by ice", Edge.iced("i0,1,0,0;b1;d0;").fill(), NONE);
        due("all lame", Edge.laid("i3,1,0,0;b1;").fill(), NONE);
        due("cows", Edge.laid("i0,1,0,9;b1;m1;").fill(), NONE);
        due("a seat and a bed, no cows", Edge.laid("i0,0,0,9;b1;d1;m0;").fill(), 1);
        due("more cows than there are", Edge.laid("i0,0,0,9;i0,0,0,9;b1;d1;m19;").fill(), NONE);
    }

    private static void beds() {
        Edge.sentence("terms 3", "BEDS: the fewest (0 to 9) by which a QUESTION FALLS");
        for (int n = 1; n <= 8; n++) {
            for (int p = 1; p <= 9; p++) {
                int need = needed(n, p);
                for (int k = 0; k <= n; k++) {
                    LeavingVote x = Edge.laid(Edge.people(n, 0, Edge.all(k)) + "b8;d" + (n + k + p) % 10 + ";h" + p + ";");
                    due("beds(0), " + k + " of " + n + " by " + p, x.beds(0), k >= need ? need : NONE);
                    due("beds(1), " + k + " of " + n + " by " + p, x.beds(1), k >= need ? need : NONE);
                }
            }
        }
        Edge.sentence("terms 3", "BEDS: the fewest (the least and the most that can be)");
        due("one", Edge.laid("i0,1,0,0;b1;d0;h1;").beds(0), 1);
        due("eight", Edge.laid(Edge.people(8, 0, 255) + "b8;d0;h9;").beds(0), 8);
        Edge.sentence("terms 3", "all else being as it is");
        for (int s = 1; s <= 8; s++) {
            due("by " + s + " seats", Edge.laid(Edge.people(8, 0, 255) + "b" + s + ";d0;h6;").beds(0), s >= 5 ? 5 : NONE);
        }
        LeavingVote x = Edge.laid(Edge.people(8, 0, 255) + "b4;b4;d0;h6;");
        x.hold(1);
        due("a boat held", x.beds(0), NONE);
        x.weather(1);
        due("a boat held, ice", x.beds(0), 5);
        x.weather(0);
        due("a boat held, ice, storm", x.beds(0), 5);
        x.weather(1);
        x.hold(1);
        due("a storm", x.beds(0), NONE);
        x.weather(0);
        due("none of these", x.beds(0), 5);
        due("count(5)", x.count(5), 0);
        due("falls(0)", x.falls(0), 0);
        Edge.sentence("promise 21", "NONE; BAD (of several the first)");
        x = Edge.laid("i0,0,0,0;");
        due("beds(0)", x.beds(0), NONE);
        due("beds(2)", x.beds(2), BAD);
        due("beds(-1)", x.beds(-1), BAD);
    }

    private static void help() {
        Edge.sentence("terms 3", "none (none is HELD)");
        for (int n = 0; n <= 5; n++) {
            LeavingVote x = Edge.laid(Edge.people(8, 0, 255) + Edge.times(n, "b1;") + "d9;");
            due("help(0, 0), none of " + n + " held", x.help(0, 0), NONE);
            due("help(0, 1), none of " + n + " held", x.help(0, 1), NONE);
            if (n > 0) {
                x.hold(n - 1);
                due("help(0, 0), the last of " + n + " held", x.help(0, 0), n - 1);
                due("help(0, 1), the last of " + n + " held", x.help(0, 1), n);
                x.hold(n - 1);
                due("help(0, 0), let go", x.help(0, 0), NONE);
            }
        }
        Edge.sentence("terms 3", "none (none is HELD; not when nobody would LEAVE)");
        LeavingVote x = Edge.laid(Edge.people(8, 0, 0) + "b1;b2;b3;");
        x.hold(2);
        x.hold(1);
        due("help(0, 0), nobody wants to", x.help(0, 0), 1);
        due("help(0, 1), nobody wants to", x.help(0, 1), 0);
        x = Edge.stormy(Edge.people(8, 0, 255) + "b1;b2;b3;");
        x.hold(2);
        due("help(0, 0), storm", x.help(0, 0), 2);
        due("help(0, 1), storm", x.help(0, 1), 0);
        x = Edge.laid(Edge.people(8, 0, 255) + "b1;b2;b3;d0;");
        x.hold(1);
        due("help(1, 0), no bed", x.help(1, 0), 1);
        due("help(1, 1), no bed", x.help(1, 1), 0);
        Edge.sentence("promise 22", "NONE; BAD (of several the first)");
        x = Edge.laid("i0,1,0,0;");
        due("help(0, 0)", x.help(0, 0), NONE);
        due("help(2, 0)", x.help(2, 0), BAD);
        due("help(-1, 1)", x.help(-1, 1), BAD);
        due("help(0, 2)", x.help(0, 2), BAD);
        due("help(0, -1)", x.help(0, -1), BAD);
    }

    private static void helpMost() {
        Edge.sentence("terms 3", "HELP: the BOAT that is HELD by whose being let go most would LEAVE on a QUESTION");
        LeavingVote x = Edge.laid(Edge.people(8, 0, 255) + "b1;b3;b2;b4;b8;d9;");
        for (int held = 1; held < 16; held++) {
            int most = held >= 8 ? 3 : (held & 2) != 0 ? 1 : (held & 4) != 0 ? 2 : 0;
            LeavingVote y = Edge.laid(Edge.people(8, 0, 255) + "b1;b3;b2;b4;d9;");
            int[] seats = {1, 3, 2, 4};
            int left = 10;
            for (int b = 0; b < 4; b++) {
                if ((held >> b & 1) == 1) {
                    y.hold(b);
                    left -= seats[b];
                }
            }
            if (left + seats[most] <= 8) {
                due("help(0, 0), held " + held, y.help(0, 0), most);
            }
            due("help(0, 1), held " + held, y.help(0, 1), Math.min(8, left + seats[most]));
        }
        Edge.sentence("terms 3", "it; how many (in all, not how many more)");
        for (int b = 0; b < 4; b++) {
            x.hold(b);
        }
        x.hold(4);
        due("help(0, 0)", x.help(0, 0), 4);
        due("help(0, 1)", x.help(0, 1), 8);
        x.hold(4);
        due("help(0, 0), most leave whichever is let go", x.help(0, 0), 0);
        due("help(0, 1)", x.help(0, 1), 8);
        due("count(2)", x.count(2), 4);
        Edge.sentence("terms 3", "of several the first");
        for (int first = 0; first < 5; first++) {
            x = Edge.laid(Edge.people(8, 0, 255) + Edge.times(5, "b2;") + "d9;");
            for (int b = 4; b >= first; b--) {
                x.hold(b);
            }
            due("help(0, 0), held from " + first, x.help(0, 0), first);
            due("help(0, 1), held from " + first, x.help(0, 1), Math.min(8, 2 * first + 2));
        }
        x = Edge.laid(Edge.people(8, 0, 7) + "b2;b3;b8;d9;");
        for (int b = 0; b < 3; b++) {
            x.hold(b);
        }
        due("help(0, 0), three want to", x.help(0, 0), 1);
        x = Edge.laid(Edge.people(8, 0, 255) + "b2;b3;b8;d2;");
        for (int b = 0; b < 3; b++) {
            x.hold(b);
        }
        due("help(0, 0), two beds", x.help(0, 0), 0);
        due("help(0, 1), two beds", x.help(0, 1), 2);
        x.weather(1);
        due("help(0, 0), ice", x.help(0, 0), 0);
        due("help(0, 1), ice", x.help(0, 1), 2);
        Edge.sentence("terms 3", "on a QUESTION");
        x = Edge.laid("i0,1,0,0;i0,3,0,0;i0,3,0,0;b1;b2;b3;");
        for (int b = 0; b < 3; b++) {
            x.hold(b);
        }
        due("help(0, 0)", x.help(0, 0), 2);
        due("help(0, 1)", x.help(0, 1), 3);
        due("help(1, 0)", x.help(1, 0), 1);
        due("help(1, 1)", x.help(1, 1), 2);
    }

    private static void both() {
        Edge.sentence("terms 3", "BOATS 0, 2, 4 take those who want to leave on QUESTION 0, 1, 3 those on 1");
        for (int boats = 0; boats <= 5; boats++) {
            for (int held = 0; held < 1 << boats; held++) {
                LeavingVote x = Edge.laid(Edge.times(4, "i0,1,0,0;") + Edge.times(4, "i0,2,0,0;") + Edge.times(boats, "b1;") + "d9;");
                int even = 0;
                int odd = 0;
                for (int b = 0; b < boats; b++) {
                    boolean free = (held >> b & 1) == 0;
                    if (!free) {
                        x.hold(b);
                    }
                    even += free && b % 2 == 0 ? 1 : 0;
                    odd += free && b % 2 == 1 ? 1 : 0;
                }
                due("both(0), " + boats + " boats, held " + held, x.both(0), even);
                due("both(1), " + boats + " boats, held " + held, x.both(1), odd);
            }
        }
        Edge.sentence("terms 3", "who wants both only on 0");
        LeavingVote x = Edge.laid(Edge.times(4, "i0,3,0,0;") + "i0,2,0,0;b1;b8;d9;");
        due("both(0), one seat", x.both(0), 1);
        due("both(1), those without a seat on 0 don't go on 1", x.both(1), 1);
        x = Edge.laid(Edge.times(8, "i0,3,0,0;") + "b8;b8;d9;");
        due("both(0), all want both", x.both(0), 8);
        due("both(1), all want both", x.both(1), 0);
        x = Edge.laid("i0,2,0,0;i2,0,0,0;i0,1,0,0;i2,2,2,0;b8;b8;d9;");
        due("both(0), a cousin", x.both(0), 2);
        due("both(1), a cousin", x.both(1), 2);
        Edge.sentence("terms 3", "BEDS first for those of QUESTION 0: how many LEAVE on each");
        for (int d = 0; d <= 9; d++) {
            for (int seats = 1; seats <= 8; seats += 3) {
                x = Edge.laid(Edge.times(2, "i0,2,0,0;") + Edge.times(3, "i0,1,0,0;") + "i0,3,0,0;i0,0,0,0;i0,2,0,0;b" + seats + ";b"
                    + seats + ";d" + d + ";");
                int first = Math.min(Math.min(4, seats), d);
                int second = Math.min(Math.min(3, seats), d - first);
                due("both(0), " + seats + " seats, " + d + " beds", x.both(0), first);
                due("both(1), " + seats + " seats, " + d + " beds", x.both(1), second);
            }
        }
        x = Edge.laid("i0,2,0,0;i0,2,0,0;b8;b8;d2;");
        due("both(0), nobody on 0", x.both(0), 0);
        due("both(1), nobody on 0", x.both(1), 2);
    }

    private static void bothWeather() {
        Edge.sentence("terms 3", "by ICE likewise");
        String text = "i3,1,0,0;i2,2,0,0;i0,3,0,0;i3,2,0,0;i2,1,1,0;i1,0,0,0;";
        LeavingVote x = Edge.iced(text + "d9;");
        due("both(0), without a boat", x.both(0), 3);
        due("both(1), without a boat", x.both(1), 2);
        x = Edge.iced(text + "b1;b1;d4;");
        x.hold(0);
        x.hold(1);
        due("both(0), four beds", x.both(0), 3);
        due("both(1), four beds", x.both(1), 1);
        due("both(1), three beds", Edge.iced(text + "d3;").both(1), 0);
        due("both(0), two beds", Edge.iced(text + "d2;").both(0), 2);
        due("both(1), two beds", Edge.iced(text + "d2;").both(1), 0);
        due("both(0), eight", Edge.iced(Edge.times(8, "i3,1,0,0;") + "d9;").both(0), 8);
        due("both(1), eight", Edge.iced(Edge.times(8, "i3,2,0,0;") + "d9;").both(1), 8);
        Edge.sentence("terms 3", "in STORMS likewise");
        x = Edge.stormy(Edge.times(3, "i0,1,0,0;i0,2,0,0;") + "b8;b8;d9;");
        due("both(0)", x.both(0), 0);
        due("both(1)", x.both(1), 0);
        x.weather(1);
        due("both(0), ice, too", x.both(0), 3);
        due("both(1), ice, too", x.both(1), 3);
    }

    private static void refused() {
        Edge.sentence("promises 18, 19, 21, 22, 23", "BAD (QUESTIONS: such as there are)");
        LeavingVote x = Edge.laid(Edge.people(2, 0, 3) + "b8;b8;");
        x.hold(1);
        for (int q = -30; q < 40; q++) {
            boolean told = q == 0 || q == 1;
            due("decides(" + q + ")", x.decides(q), told ? 0 : BAD);
            due("win(" + q + ")", x.win(q), told ? 3 : BAD);
            due("beds(" + q + ")", x.beds(q), told ? 1 : BAD);
            due("help(" + q + ", 1)", x.help(q, 1), told ? 2 : BAD);
            due("both(" + q + ")", x.both(q), told ? 2 - 2 * q : BAD);
        }
        x = new LeavingVote();
        x.hold(1);
        for (int far : Edge.FAR) {
            due("decides(" + far + ")", x.decides(far), BAD);
            due("win(" + far + ")", x.win(far), BAD);
            due("beds(" + far + ")", x.beds(far), BAD);
            due("help(" + far + ", 0)", x.help(far, 0), BAD);
            due("both(" + far + ")", x.both(far), BAD);
        }
        Edge.sentence("promise 22", "BAD (what: 0, 1)");
        for (int far : Edge.FAR) {
            due("help(0, " + far + ")", x.help(0, far), BAD);
        }
        for (int what = 2; what < 40; what++) {
            due("help(1, " + what + ")", x.help(1, what), BAD);
        }
    }
}
