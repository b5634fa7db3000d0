/** The edges that section 2 of the terms and promises 8 to 17 name, a sentence at a time. */
public final class NightEdgeTest {
    private static final int BAD = Edge.BAD, NO = Edge.NO, NONE = Edge.NONE;

    public static void main(String[] args) {
        willing();
        cousins();
        comeRound();
        ice();
        storm();
        seats();
        beds();
        boats();
        falls();
        milked();
        lean();
        mind();
        hold();
        weather();
        alone();
        undoEach();
        undoMost();
        undoOnlyChanges();
        questions();
        Edge.end("NightEdgeTest");
    }

    private static void due(String call, int got, int want) {
        Edge.due(call, got, want);
    }

    private static void willing() {
        Edge.sentence("terms 2", "a PLAIN, a SEASICK one who is against it (1 is against QUESTION 0, 2 against 1, 3 both)");
        for (int kind = 0; kind < 2; kind++) {
            for (int l = 0; l < 4; l++) {
                LeavingVote x = Edge.laid("i" + kind + "," + l + ",1,0;i0," + (3 - l) + ",0,0;");
                due("wants(0) of leaning " + l, x.wants(0) & 1, l & 1);
                due("wants(1) of leaning " + l, x.wants(1) & 1, l >> 1);
            }
        }
        Edge.sentence("terms 2", "a PLAIN, a SEASICK one who is against it (none is; all are)");
        for (int n = 1; n <= 8; n++) {
            due("wants(0), none of " + n, Edge.laid(Edge.people(n, 0, 0)).wants(0), 0);
            due("wants(0), all of " + n, Edge.laid(Edge.people(n, 0, 255)).wants(0), Edge.all(n));
            due("wants(1), all seasick of " + n, Edge.laid(Edge.people(n, 1, 255)).wants(1), Edge.all(n));
        }
        Edge.sentence("terms 2", "a LAME one never");
        for (int l = 0; l < 4; l++) {
            LeavingVote x = Edge.laid("i3," + l + ",1,0;i0,3,0,0;");
            due("wants(0) of leaning " + l, x.wants(0), 2);
            due("wants(1) of leaning " + l, x.wants(1), 2);
        }
        due("wants(0) of eight lame ones", Edge.laid(Edge.people(8, 3, 255)).wants(0), 0);
        Edge.sentence("promise 8", "WANTS TO LEAVE, as bits (whether there is a seat or a bed or not)");
        due("wants(0) without boats and beds", Edge.laid(Edge.people(8, 0, 255) + "d0;").wants(0), 255);
    }

    private static void cousins() {
        Edge.sentence("terms 2", "a COUSIN if the one whom he MINDS does");
        for (int l = 0; l < 4; l++) {
            LeavingVote x = Edge.laid("i2," + l + ",1,0;i0,1,1,0;i2," + l + ",3,0;i1,2,3,0;i2," + l + ",5,0;i3,3,5,0;");
            due("wants(0), cousins' leaning " + l, x.wants(0), 0b000011);
            due("wants(1), cousins' leaning " + l, x.wants(1), 0b001100);
        }
        Edge.sentence("terms 2", "(who may be a COUSIN, and so on)");
        for (int n = 2; n <= 8; n++) {
            StringBuilder up = new StringBuilder();
            for (int i = 0; i + 1 < n; i++) {
                up.append("i2,2,").append(i + 1).append(",0;");
            }
            LeavingVote x = Edge.laid(up + "i0,1,0,0;");
            due("wants(0), " + n + " one after the other", x.wants(0), Edge.all(n));
            due("wants(1), " + n + " one after the other", x.wants(1), 0);
            StringBuilder down = new StringBuilder("i1,2,0,0;");
            for (int i = 1; i < n; i++) {
                down.append("i2,1,").append(i - 1).append(",0;");
            }
            x = Edge.laid(down.toString());
            due("wants(1), " + n + " one before the other", x.wants(1), Edge.all(n));
            due("wants(0), " + n + " one before the other", x.wants(0), 0);
        }
        LeavingVote x = Edge.laid("i2,3,1,0;i2,3,2,0;i2,3,3,0;i2,3,4,0;i2,3,5,0;i2,3,6,0;i2,3,7,0;i3,3,0,0;");
        due("wants(0), seven that go by a lame one", x.wants(0), 0);
        x = Edge.laid("i2,0,7,0;i2,0,7,0;i2,0,7,0;i2,0,7,0;i2,0,7,0;i2,0,7,0;i2,0,7,0;i0,3,0,0;");
        due("wants(0), seven by one", x.wants(0), 255);
    }

    private static void comeRound() {
        Edge.sentence("terms 2", "COUSINS who so come round to themselves go by their own LEANING");
        LeavingVote x = Edge.laid("i2,1,0,0;i2,2,1,0;");
        due("wants(0), each by himself", x.wants(0), 1);
        due("wants(1), each by himself", x.wants(1), 2);
        for (int n = 1; n <= 8; n++) {
            for (int own = 0; own < 1 << n; own += n < 5 ? 1 : 13) {
                StringBuilder text = new StringBuilder();
                for (int i = 0; i < n; i++) {
                    text.append("i2,").append(1 + (own >> i & 1)).append(',').append((i + 1) % n).append(",0;");
                }
                x = Edge.laid(text.toString());
                due("wants(1) of " + text, x.wants(1), own);
                due("wants(0) of " + text, x.wants(0), Edge.all(n) & ~own);
            }
        }
        Edge.sentence("terms 2", "COUSINS who so come round to themselves (those who only MIND one of them go by him)");
        x = Edge.laid("i2,0,1,0;i2,0,2,0;i2,0,3,0;i2,1,3,0;");
        due("wants(0), three behind one by himself", x.wants(0), 15);
        x = Edge.laid("i2,3,1,0;i2,3,2,0;i2,3,3,0;i2,0,3,0;");
        due("wants(0), three behind one by himself", x.wants(0), 0);
        x = Edge.laid("i2,0,1,0;i2,0,2,0;i2,0,3,0;i2,0,4,0;i2,0,5,0;i2,0,6,0;i2,1,7,0;i2,2,6,0;");
        due("wants(0), six behind two", x.wants(0), 0b01111111);
        due("wants(1), six behind two", x.wants(1), 0b10000000);
        x = Edge.laid("i2,2,1,0;i2,1,0,0;i2,1,0,0;i2,2,1,0;i2,0,3,0;i2,3,2,0;");
        due("wants(0), two and those behind each of them", x.wants(0), 0b011010);
        due("wants(1), two and those behind each of them", x.wants(1), 0b100101);
        Edge.sentence("terms 2", "COUSINS who so come round (a chain that a PLAIN one ends does not)");
        x = Edge.laid("i2,1,1,0;i0,0,0,0;");
        due("wants(0), the plain one minds the cousin", x.wants(0), 0);
        x = Edge.laid("i2,1,1,0;i3,3,0,0;");
        due("wants(0), the lame one minds the cousin", x.wants(0), 0);
        x = Edge.laid("i2,0,1,0;i2,0,2,0;i1,1,0,0;");
        due("wants(0), the seasick one minds the cousin", x.wants(0), 7);
    }

    private static void ice() {
        Edge.sentence("terms 2", "If there is ICE, all who are against it do");
        for (int kind = 0; kind < 4; kind++) {
            LeavingVote x = Edge.iced(Edge.people(8, kind, 0b10100101));
            due("wants(0), kind " + kind, x.wants(0), 0b10100101);
            due("wants(1), kind " + kind, x.wants(1), 0b10100101);
            due("wants(0), all of kind " + kind, Edge.iced(Edge.people(8, kind, 255)).wants(0), 255);
            due("wants(0), none of kind " + kind, Edge.iced(Edge.people(8, kind, 0)).wants(0), 0);
        }
        Edge.sentence("terms 2", "LAME ones, too");
        LeavingVote x = Edge.iced("i3,1,0,0;i3,2,0,0;");
        due("wants(0)", x.wants(0), 1);
        due("wants(1)", x.wants(1), 2);
        x.weather(1);
        due("wants(0) once it ends", x.wants(0), 0);
        Edge.sentence("terms 2", "and COUSINS by their own LEANING");
        x = Edge.iced("i2,0,1,0;i0,1,0,0;i2,1,3,0;i0,0,0,0;i2,1,5,0;i2,2,4,0;");
        due("wants(0)", x.wants(0), 0b010110);
        due("wants(1)", x.wants(1), 0b100000);
        x.weather(1);
        due("wants(0) once it ends", x.wants(0), 0b010011);
        Edge.sentence("terms 2", "by ICE they need no seat");
        x = Edge.iced(Edge.people(8, 0, 255) + "d9;");
        due("leave(0) without a boat", x.leave(0), 255);
        x = Edge.iced(Edge.people(8, 0, 255) + "b1;b2;d9;");
        due("leave(0) with three seats", x.leave(0), 255);
        x.hold(0);
        x.hold(1);
        due("leave(0) with all held", x.leave(0), 255);
        x.weather(1);
        due("leave(0) once it ends", x.leave(0), 0);
    }

    private static void storm() {
        Edge.sentence("terms 2", "In a STORM nobody does");
        LeavingVote x = Edge.stormy(Edge.people(4, 0, 15) + Edge.people(4, 2, 15) + "b8;d9;m9;h1;");
        for (int q = 0; q < 2; q++) {
            due("wants", x.wants(q), 0);
            due("leave", x.leave(q), 0);
            due("by", x.by(q, 0), NONE);
            due("falls", x.falls(q), 0);
            due("milked", x.milked(q, 0), 8);
        }
        x.weather(0);
        due("wants(0) once it ends", x.wants(0), 255);
        Edge.sentence("terms 2", "(but for ICE)");
        String text = "i0,1,0,0;i2,0,0,0;i3,3,0,0;i2,1,3,0;i1,2,0,0;d9;";
        x = Edge.iced(text);
        LeavingVote y = Edge.iced(text);
        y.weather(0);
        for (int q = 0; q < 2; q++) {
            due("wants by both", y.wants(q), x.wants(q));
            due("leave by both", y.leave(q), x.leave(q));
        }
        due("wants(0) by both", y.wants(0), 0b01101);
        y.weather(1);
        due("wants(0) once the ice ends", y.wants(0), 0);
    }

    private static void seats() {
        Edge.sentence("terms 2", "They are seated, lowest number first, each in the first BOAT that has a seat left");
        for (int s = 1; s <= 8; s++) {
            LeavingVote x = Edge.laid(Edge.people(8, 0, 255) + "b" + s + ";d9;");
            due("leave(0) by " + s + " seats", x.leave(0), Edge.all(s));
            due("by(0, " + (s - 1) + ")", x.by(0, s - 1), 0);
            due("by(0, " + s + ")", x.by(0, s), s == 8 ? BAD : NONE);
        }
        for (int wanting = 0; wanting < 256; wanting += 5) {
            LeavingVote x = Edge.laid(Edge.people(8, 0, wanting) + "b1;b2;d9;");
            int left = 3;
            for (int i = 0; i < 8; i++) {
                boolean seated = (wanting >> i & 1) == 1 && left > 0;
                due("by(0, " + i + ") of " + wanting, x.by(0, i), !seated ? NONE : left == 3 ? 0 : 1);
                left -= seated ? 1 : 0;
            }
        }
        due("leave(0) without a boat", Edge.laid(Edge.people(8, 0, 255) + "d9;").leave(0), 0);
        due("leave(0) of 40 seats", Edge.laid(Edge.people(8, 0, 255) + "b8;b8;b8;b8;b8;d9;").leave(0), 255);
        Edge.sentence("terms 2", "each in the first BOAT that is not HELD");
        int[] size = {1, 2, 1, 3, 1};
        LeavingVote x = Edge.laid(Edge.people(8, 0, 255) + "b1;b2;b1;b3;b1;d9;");
        for (int held = 0; held < 32; held++) {
            for (int b = 0; b < 5; b++) {
                if (x.boat(b, 1) != (held >> b & 1)) {
                    x.hold(b);
                }
            }
            int i = 0;
            for (int b = 0; b < 5; b++) {
                for (int seat = 0; seat < size[b] && (held >> b & 1) == 0; seat++) {
                    due("by(0, " + i + "), held " + held, x.by(0, i), b);
                    i++;
                }
            }
            due("leave(0), held " + held, x.leave(0), Edge.all(i));
            due("by(1, 7), held " + held, x.by(1, 7), i == 8 ? 4 : NONE);
            x = held % 4 == 3 ? fresh(held) : x;
        }
    }

    /** An object is used for 512 calls, no more. */
    private static LeavingVote fresh(int held) {
        LeavingVote x = Edge.laid(Edge.people(8, 0, 255) + "b1;b2;b1;b3;b1;d9;");
        for (int b = 0; b < 5; b++) {
            if ((held >> b & 1) == 1) {
                x.hold(b);
            }
        }
        return x;
    }

    private static void beds() {
        Edge.sentence("terms 2", "Of those who have a seat as many as there are BEDS, lowest number first, LEAVE");
        for (int d = 0; d <= 9; d++) {
            for (int s = 1; s <= 8; s++) {
                LeavingVote x = Edge.laid(Edge.people(8, 0, 255) + "b" + s + ";d" + d + ";");
                due("leave(0) by " + s + " seats, " + d + " beds", x.leave(0), Edge.all(Math.min(d, s)));
            }
        }
        LeavingVote x = Edge.laid(Edge.people(8, 0, 0b11010110) + "b8;d3;");
        due("leave(0) of some", x.leave(0), 0b00010110);
        due("by(0, 4), who has the last bed", x.by(0, 4), 0);
        due("by(0, 6), who has a seat and no bed", x.by(0, 6), NONE);
        Edge.sentence("terms 2", "(or need none) as many as there are BEDS");
        for (int d = 0; d <= 9; d++) {
            due("leave(0) by ice, " + d + " beds", Edge.iced(Edge.people(8, 3, 255) + "d" + d + ";").leave(0), Edge.all(Math.min(d, 8)));
        }
        Edge.sentence("terms 2", "all others stay");
        x = Edge.laid(Edge.people(8, 0, 255) + "b3;d2;m6;");
        due("milked(0, 0)", x.milked(0, 0), 6);
        due("milked(0, 1)", x.milked(0, 1), 1);
    }

    private static void boats() {
        Edge.sentence("promise 10", "NONE: in none (he stays");
        LeavingVote x = Edge.laid("i0,1,0,0;i0,0,0,0;i3,1,0,0;i0,1,0,0;i0,1,0,0;b1;b2;d2;");
        int[] by = {0, NONE, NONE, 1, NONE};
        for (int i = 0; i < 5; i++) {
            due("by(0, " + i + ")", x.by(0, i), by[i]);
            due("by(1, " + i + ")", x.by(1, i), NONE);
        }
        Edge.sentence("promise 10", "or by ICE)");
        x.weather(1);
        for (int i = 0; i < 5; i++) {
            due("by(0, " + i + ")", x.by(0, i), NONE);
        }
        due("leave(0), though they leave", x.leave(0), 0b101);
        Edge.sentence("promise 10", "BAD (ISLANDERS, QUESTIONS: such as there are)");
        for (int n = 1; n <= 8; n++) {
            x = Edge.laid(Edge.people(n, 0, 255) + "b8;d9;");
            due("by(0, last)", x.by(0, n - 1), 0);
            due("by(1, last)", x.by(1, n - 1), 0);
            due("by(0, behind the last)", x.by(0, n), BAD);
            due("by(0, -1)", x.by(0, -1), BAD);
            due("by(2, 0)", x.by(2, 0), BAD);
            due("by(-1, 0)", x.by(-1, 0), BAD);
        }
        Edge.sentence("promise 10", "NONE; BAD (of several the first)");
        x = Edge.iced(Edge.people(3, 0, 0));
        due("by(2, 0) where nobody leaves", x.by(2, 0), BAD);
        due("by(0, 3) where nobody leaves", x.by(0, 3), BAD);
        due("by(0, 2) where nobody leaves", x.by(0, 2), NONE);
        for (int far : Edge.FAR) {
            due("by(0, " + far + ")", x.by(0, far), BAD);
            due("by(" + far + ", 0)", x.by(far, 0), BAD);
        }
        for (int i = 8; i < 70; i++) {
            due("by(0, " + i + ")", x.by(0, i), BAD);
        }
    }

    private static void falls() {
        Edge.sentence("terms 2", "A law FALLS if ten times those who LEAVE are as much as P times all, or more");
        for (int n = 1; n <= 8; n++) {
            for (int p = 1; p <= 9; p++) {
                for (int k = 0; k <= n; k++) {
                    LeavingVote x = Edge.laid(Edge.people(n, 0, Edge.all(k)) + "b8;d9;h" + p + ";");
                    due("falls(0), " + k + " of " + n + " by " + p, x.falls(0), 10 * k >= p * n ? 1 : 0);
                }
            }
        }
        Edge.sentence("terms 2", "as much as P times all, or more (just as much, and one short)");
        due("4 of 8 by 5", Edge.laid(Edge.people(8, 0, 15) + "b8;d8;h5;").falls(0), 1);
        due("3 of 8 by 5", Edge.laid(Edge.people(8, 0, 7) + "b8;d8;h5;").falls(0), 0);
        due("1 of 5 by 2", Edge.laid(Edge.people(5, 0, 1) + "b8;h2;").falls(1), 1);
        due("1 of 5 by 3", Edge.laid(Edge.people(5, 0, 1) + "b8;h3;").falls(1), 0);
        due("8 of 8 by 9", Edge.laid(Edge.people(8, 0, 255) + "b8;d8;h9;").falls(1), 1);
        due("7 of 8 by 9", Edge.laid(Edge.people(8, 0, 127) + "b8;d8;h9;").falls(1), 0);
        due("1 of 8 by 1", Edge.laid(Edge.people(8, 0, 1) + "b8;h1;").falls(0), 1);
        due("0 of 8 by 1", Edge.laid(Edge.people(8, 0, 0) + "b8;h1;").falls(0), 0);
        Edge.sentence("terms 2", "those who LEAVE (not those who want to)");
        due("8 want, 3 seats", Edge.laid(Edge.people(8, 0, 255) + "b3;d8;").falls(0), 0);
        due("8 want, 4 seats", Edge.laid(Edge.people(8, 0, 255) + "b4;d8;").falls(0), 1);
        due("8 want, 3 beds", Edge.laid(Edge.people(8, 0, 255) + "b8;d3;").falls(0), 0);
        due("8 want, 4 beds", Edge.laid(Edge.people(8, 0, 255) + "b8;d4;").falls(0), 1);
    }

    private static void milked() {
        Edge.sentence("terms 2", "MILKED is whether those who stay milk M cows, or more, together");
        for (int m = 0; m <= 40; m++) {
            LeavingVote x = Edge.laid("i0,1,0,9;i0,0,0,9;i0,2,0,9;i3,0,0,9;i2,0,1,4;b8;m" + m + ";");
            due("milked(0, 0)", x.milked(0, 0), 31);
            due("milked(0, 1), m" + m, x.milked(0, 1), m <= 31 ? 1 : 0);
            due("milked(1, 0)", x.milked(1, 0), 31);
            x.lean(2, 0);
            x.lean(0, 0);
            due("milked(0, 0), all stay", x.milked(0, 0), 40);
            due("milked(0, 1), all stay, m" + m, x.milked(0, 1), 1);
        }
        Edge.sentence("promise 12", "How many cows those milk who stay (none stays; all stay)");
        LeavingVote x = Edge.laid(Edge.times(8, "i0,1,0,9;") + "b8;d8;m1;");
        due("milked(0, 0), none stays", x.milked(0, 0), 0);
        due("milked(0, 1), none stays", x.milked(0, 1), 0);
        due("milked(1, 0), all stay", x.milked(1, 0), 72);
        due("milked(1, 1), all stay", x.milked(1, 1), 1);
        x = Edge.laid("i0,1,0,9;b8;m0;");
        due("milked(0, 1), none stays, no cow", x.milked(0, 1), 1);
        x = Edge.laid("i0,0,0,0;b8;m1;");
        due("milked(0, 1), one stays who milks none", x.milked(0, 1), 0);
        Edge.sentence("promise 12", "How many cows those milk who stay (for want of a seat, too)");
        x = Edge.laid("i0,1,0,1;i0,1,0,2;i0,1,0,4;b1;");
        due("milked(0, 0)", x.milked(0, 0), 6);
        Edge.sentence("promise 12", "BAD");
        for (int far : Edge.FAR) {
            due("milked(" + far + ", 0)", x.milked(far, 0), BAD);
            due("milked(0, " + far + ")", x.milked(0, far), BAD);
        }
        for (int k = 2; k < 70; k++) {
            due("milked(" + k + ", 0)", x.milked(k, 0), BAD);
            due("milked(0, " + k + ")", x.milked(0, k), BAD);
            due("milked(1, " + k + ")", x.milked(1, k), BAD);
        }
    }

    private static void lean() {
        Edge.sentence("promise 13", "A LEANING (0 to 3): what it was");
        for (int i = 0; i < 8; i++) {
            LeavingVote x = Edge.laid(Edge.people(8, 0, 0));
            int was = 0;
            for (int l : new int[] {3, 0, 1, 2, 3, 2, 1, 0, 2, 0}) {
                due("lean(" + i + ", " + l + ")", x.lean(i, l), was);
                due("islander(" + i + ", 1)", x.islander(i, 1), l);
                due("wants(0)", x.wants(0), (l & 1) << i);
                due("wants(1)", x.wants(1), (l >> 1) << i);
                was = l;
            }
        }
        Edge.sentence("promise 13", "BAD");
        for (int n = 1; n <= 8; n++) {
            LeavingVote x = Edge.laid(Edge.people(n, 0, 0));
            due("lean(last, 3)", x.lean(n - 1, 3), 0);
            due("lean(behind the last, 3)", x.lean(n, 3), BAD);
            due("lean(-1, 3)", x.lean(-1, 3), BAD);
            due("lean(0, 4)", x.lean(0, 4), BAD);
            due("lean(0, -1)", x.lean(0, -1), BAD);
            due("count(9)", x.count(9), 1);
            due("wants(0)", x.wants(0), 1 << n - 1);
        }
        LeavingVote x = new LeavingVote();
        for (int far : Edge.FAR) {
            due("lean(0, " + far + ")", x.lean(0, far), BAD);
            due("lean(" + far + ", 0)", x.lean(far, 0), BAD);
        }
        for (int k = 8; k < 70; k++) {
            due("lean(0, " + k + ")", x.lean(0, k), BAD);
            due("lean(" + k + ", 0)", x.lean(k, 0), BAD);
        }
        due("lean(0, 5)", x.lean(0, 5), BAD);
        due("lean(0, 7)", x.lean(0, 7), BAD);
        Edge.sentence("promise 13", "BAD (nothing changes then)");
        due("count(9)", x.count(9), 0);
        due("wants(0)", x.wants(0), 15);
        due("wants(1)", x.wants(1), 26);
    }

    private static void mind() {
        Edge.sentence("promise 14", "Whom one MINDS: whom he did");
        for (int i = 0; i < 8; i++) {
            LeavingVote x = Edge.laid(Edge.people(8, 2, 0b10101010));
            int was = 0;
            for (int j : new int[] {7, 0, 1, 6, 3, 2, 5, 4, 7}) {
                due("mind(" + i + ", " + j + ")", x.mind(i, j), was);
                due("islander(" + i + ", 2)", x.islander(i, 2), j);
                was = j;
            }
            for (int k = 0; k < 8; k++) {
                due("islander(" + k + ", 2), the others", x.islander(k, 2), k == i ? 7 : 0);
            }
        }
        Edge.sentence("promise 14", "Whom one MINDS (himself, too)");
        LeavingVote x = Edge.laid("i2,1,1,0;i0,0,0,0;");
        due("mind(0, 0)", x.mind(0, 0), 1);
        due("wants(0)", x.wants(0), 1);
        Edge.sentence("promise 14", "Whom one MINDS (a PLAIN, a SEASICK, a LAME one, too, whom it does not move)");
        x = Edge.laid("i0,0,0,0;i1,0,1,0;i3,3,2,0;i0,1,3,0;");
        for (int i = 0; i < 3; i++) {
            due("mind(" + i + ", 3)", x.mind(i, 3), i);
        }
        due("wants(0)", x.wants(0), 8);
        due("count(9)", x.count(9), 3);
        Edge.sentence("promise 14", "BAD (ISLANDERS: such as there are)");
        for (int n = 1; n <= 8; n++) {
            x = Edge.laid(Edge.people(n, 2, 1));
            due("mind(last, last)", x.mind(n - 1, n - 1), 0);
            due("mind(behind the last, 0)", x.mind(n, 0), BAD);
            due("mind(0, behind the last)", x.mind(0, n), BAD);
            due("mind(-1, 0)", x.mind(-1, 0), BAD);
            due("mind(0, -1)", x.mind(0, -1), BAD);
            due("mind(n, n)", x.mind(n, n), BAD);
            due("count(9)", x.count(9), 1);
            due("islander(0, 2)", x.islander(0, 2), 0);
        }
        x = new LeavingVote();
        for (int far : Edge.FAR) {
            due("mind(0, " + far + ")", x.mind(0, far), BAD);
            due("mind(" + far + ", 0)", x.mind(far, 0), BAD);
        }
        for (int k = 8; k < 70; k++) {
            due("mind(0, " + k + ")", x.mind(0, k), BAD);
            due("mind(" + k + ", 0)", x.mind(k, 0), BAD);
        }
        Edge.sentence("promise 14", "BAD (nothing changes then)");
        due("count(9)", x.count(9), 0);
        int[] minds = {0, 0, 0, 1, 5, 4, 0, 0};
        for (int i = 0; i < 8; i++) {
            due("islander(" + i + ", 2)", x.islander(i, 2), minds[i]);
        }
    }

    private static void hold() {
        Edge.sentence("promise 15", "A BOAT is HELD, or let go: 1 if it is HELD then, 0");
        LeavingVote x = Edge.laid(Edge.people(5, 0, 31) + "b1;b1;b1;b1;b1;d9;");
        for (int b = 0; b < 5; b++) {
            due("hold(" + b + ")", x.hold(b), 1);
            due("count(2)", x.count(2), b + 1);
            due("leave(0)", x.leave(0), Edge.all(4 - b));
        }
        for (int b = 4; b >= 0; b--) {
            due("hold(" + b + ") again", x.hold(b), 0);
            due("count(2)", x.count(2), b);
            due("boat(" + b + ", 1)", x.boat(b, 1), 0);
        }
        due("leave(0), all let go", x.leave(0), 31);
        Edge.sentence("promise 15", "BAD (BOATS: such as there are)");
        for (int n = 0; n <= 5; n++) {
            x = Edge.laid("i0,0,0,0;" + Edge.times(n, "b1;"));
            due("hold(behind the last)", x.hold(n), BAD);
            due("hold(-1)", x.hold(-1), BAD);
            due("count(2)", x.count(2), 0);
            due("count(9)", x.count(9), 0);
            due("hold(last)", x.hold(n - 1), n == 0 ? BAD : 1);
        }
        x = new LeavingVote();
        for (int far : Edge.FAR) {
            due("hold(" + far + ")", x.hold(far), BAD);
        }
        for (int b = 2; b < 70; b++) {
            due("hold(" + b + ")", x.hold(b), BAD);
        }
        Edge.sentence("promise 15", "BAD (nothing changes then)");
        due("count(2)", x.count(2), 0);
        due("count(3)", x.count(3), 0);
        due("count(4)", x.count(4), 0);
        due("count(9)", x.count(9), 0);
    }

    private static void weather() {
        Edge.sentence("promise 16", "STORM (what = 0), ICE (1) come or end: 1 if there is then, 0");
        LeavingVote x = new LeavingVote();
        int storm = 0;
        int ice = 0;
        for (int what : new int[] {0, 0, 1, 1, 0, 1, 0, 1, 1, 0, 1, 0}) {
            storm ^= what == 0 ? 1 : 0;
            ice ^= what;
            due("weather(" + what + ")", x.weather(what), what == 0 ? storm : ice);
            due("count(3)", x.count(3), storm);
            due("count(4)", x.count(4), ice);
        }
        Edge.sentence("promise 16", "BAD");
        x = new LeavingVote();
        for (int far : Edge.FAR) {
            due("weather(" + far + ")", x.weather(far), BAD);
        }
        for (int what = 2; what < 70; what++) {
            due("weather(" + what + ")", x.weather(what), BAD);
        }
        Edge.sentence("promise 16", "BAD (nothing changes then)");
        due("count(3)", x.count(3), 0);
        due("count(4)", x.count(4), 0);
        due("count(9)", x.count(9), 0);
    }

    private static void alone() {
        Edge.sentence("terms 2", "A LEANING can be changed, whom one MINDS; a BOAT be HELD or let go; STORM, ICE come or end (that alone, and nothing beside it)");
        for (int i = 0; i < 8; i++) {
            for (int value = 0; value < 8; value++) {
                for (int base = 0; base < 2; base++) {
                    LeavingVote x = based(base);
                    int[] want = all(x);
                    want[8 + i] = value;
                    x.mind(i, value);
                    allDue("mind(" + i + ", " + value + ")", x, want);
                    want[i] = value % 4;
                    x.lean(i, value % 4);
                    allDue("lean(" + i + ", " + value % 4 + ")", x, want);
                    want[16 + i % 7] = 1 - want[16 + i % 7];
                    if (i % 7 < 5) {
                        x.hold(i % 7);
                    } else {
                        x.weather(i % 7 - 5);
                    }
                    allDue("hold or weather " + i % 7, x, want);
                    x.undo();
                    x.undo();
                    x.undo();
                    allDue("all undone", x, all(based(base)));
                }
            }
        }
    }

    /** Nothing is against it, minded but 0, held, or in the sky; or all is as much as can be. */
    private static LeavingVote based(int base) {
        LeavingVote x = Edge.laid(Edge.times(8, base == 0 ? "i0,0,0,0;" : "i0,3,7,0;") + Edge.times(5, "b1;"));
        for (int b = 0; b < 5 && base == 1; b++) {
            x.hold(b);
        }
        for (int what = 0; what < 2 && base == 1; what++) {
            x.weather(what);
        }
        return x;
    }

    /** LEANINGS, whom they MIND, HELD, STORM, ICE. */
    private static int[] all(LeavingVote x) {
        int[] all = new int[23];
        for (int i = 0; i < 8; i++) {
            all[i] = x.islander(i, 1);
            all[8 + i] = x.islander(i, 2);
        }
        for (int b = 0; b < 5; b++) {
            all[16 + b] = x.boat(b, 1);
        }
        all[21] = x.count(3);
        all[22] = x.count(4);
        return all;
    }

    private static void allDue(String call, LeavingVote x, int[] want) {
        int[] got = all(x);
        for (int k = 0; k < want.length; k++) {
            due("number " + k + " after " + call, got[k], want[k]);
        }
    }

    private static void undoEach() {
        Edge.sentence("terms 2", "A LEANING can be changed, whom one MINDS; a BOAT be HELD or let go; STORM, ICE come or end. UNDONE is the latest of these");
        for (int change = 0; change < 10; change++) {
            LeavingVote x = Edge.laid("i0,1,0,0;i2,2,0,0;b1;b2;");
            x.hold(1);
            x.weather(change == 8 ? 0 : 1);
            int[] before = standing(x);
            switch (change) {
                case 0: x.lean(0, 2); break;
                case 1: x.lean(1, 0); break;
                case 2: x.lean(1, 3); break;
                case 3: x.mind(0, 1); break;
                case 4: x.mind(1, 1); break;
                case 5: x.hold(0); break;
                case 6: x.hold(1); break;
                case 7: x.weather(0); break;
                case 8: x.weather(0); break;
                default: x.weather(1); break;
            }
            due("count(9) after change " + change, x.count(9), 3);
            int different = 0;
            int[] then = standing(x);
            for (int k = 0; k < before.length; k++) {
                different += then[k] != before[k] ? 1 : 0;
            }
            due("what change " + change + " changes", different, 1);
            due("undo() of change " + change, x.undo(), 2);
            then = standing(x);
            for (int k = 0; k < before.length; k++) {
                due("number " + k + " after the undo of change " + change, then[k], before[k]);
            }
        }
        Edge.sentence("promise 17", "NO");
        LeavingVote x = new LeavingVote();
        due("undo() of nothing", x.undo(), NO);
        x.hold(0);
        due("undo() of one", x.undo(), 0);
        due("undo() again", x.undo(), NO);
        due("undo() again", x.undo(), NO);
        Edge.sentence("promise 17", "NO (nothing changes then)");
        due("count(9)", x.count(9), 0);
        due("count(2)", x.count(2), 0);
        x.lean(0, 2);
        due("undo() of what came after", x.undo(), 0);
        due("islander(0, 1)", x.islander(0, 1), 1);
    }

    private static int[] standing(LeavingVote x) {
        return new int[] {
            x.islander(0, 1), x.islander(1, 1), x.islander(0, 2), x.islander(1, 2), x.boat(0, 1), x.boat(1, 1), x.count(3), x.count(4),
        };
    }

    private static void undoMost() {
        Edge.sentence("terms 2", "UNDONE is the latest of these (the last 8 can be)");
        for (int changes = 0; changes <= 40; changes++) {
            LeavingVote x = Edge.laid(Edge.people(8, 2, 0));
            int[] whom = new int[changes + 1];
            for (int k = 1; k <= changes; k++) {
                whom[k] = (k * 3 + k / 8) % 8;
                due("mind, change " + k, x.mind(5, whom[k]), whom[k - 1]);
                due("count(9) after " + k, x.count(9), Math.min(k, 8));
            }
            int can = Math.min(changes, 8);
            for (int k = 1; k <= can; k++) {
                due("undo() " + k + " after " + changes, x.undo(), can - k);
                due("count(9)", x.count(9), can - k);
                due("islander(5, 2)", x.islander(5, 2), whom[changes - k]);
            }
            due("undo() of one more", x.undo(), NO);
            due("islander(5, 2) then", x.islander(5, 2), whom[changes - can]);
        }
        Edge.sentence("terms 2", "the last 8 can be (those that come behind some that were UNDONE, too)");
        LeavingVote x = Edge.laid(Edge.people(8, 2, 0));
        for (int j = 1; j < 8; j++) {
            x.mind(0, j);
        }
        for (int left = 6; left >= 4; left--) {
            due("undo()", x.undo(), left);
        }
        int[] then = {7, 1, 6, 2, 5, 3, 0};
        for (int j : then) {
            x.mind(0, j);
        }
        due("count(9)", x.count(9), 8);
        int[] was = {3, 5, 2, 6, 1, 7, 4, 3};
        for (int k = 0; k < 8; k++) {
            due("undo()", x.undo(), 7 - k);
            due("islander(0, 2)", x.islander(0, 2), was[k]);
        }
        due("undo()", x.undo(), NO);
        Edge.sentence("What it is", "An object is used for at most 512 calls");
        x = new LeavingVote();
        int leaning = 1;
        for (int call = 1; call <= 500; call++) {
            due("lean, call " + call, x.lean(0, call % 4), leaning);
            leaning = call % 4;
        }
        due("count(9), call 501", x.count(9), 8);
        for (int left = 7; left >= 0; left--) {
            due("undo()", x.undo(), left);
        }
        due("undo(), call 510", x.undo(), NO);
        due("islander(0, 1), call 511", x.islander(0, 1), 492 % 4);
        due("wants(0), call 512", x.wants(0), 0b1110);
    }

    private static void undoOnlyChanges() {
        Edge.sentence("terms 2", "UNDONE is the latest of these (what is written, laid bare, SEEN or KEPT is none of them)");
        LeavingVote x = new LeavingVote();
        x.hold(0);
        x.write('b');
        x.wipe();
        x.write('i');
        x.fault();
        x.lay();
        x.seen(0, 3);
        x.forget();
        x.seen(0, 2);
        x.keep();
        for (int q = 0; q < 2; q++) {
            x.wants(q);
            x.leave(q);
            x.by(q, 0);
            x.falls(q);
            x.milked(q, 0);
            x.decides(q);
            x.win(q);
            x.beds(q);
            x.help(q, 0);
            x.both(q);
            x.odds(q, 0);
            x.months(5, 60, q);
            x.oars(q);
        }
        x.fill();
        x.asked(3);
        due("count(9)", x.count(9), 1);
        due("boat(0, 1)", x.boat(0, 1), 1);
        due("undo()", x.undo(), 0);
        due("boat(0, 1)", x.boat(0, 1), 0);
        due("count(8)", x.count(8), 1);
        due("count(10)", x.count(10), 1);
        due("count(11)", x.count(11), 1);
        Edge.sentence("promise 17", "UNDONE (what a call refused is none that could be)");
        x = new LeavingVote();
        x.lean(0, 0);
        x.lean(8, 0);
        x.lean(0, 4);
        x.mind(0, 8);
        x.hold(2);
        x.weather(2);
        due("count(9)", x.count(9), 1);
        due("undo()", x.undo(), 0);
        due("islander(0, 1)", x.islander(0, 1), 1);
    }

    private static void questions() {
        Edge.sentence("promises 8, 9, 11", "BAD (QUESTIONS: such as there are)");
        LeavingVote x = Edge.laid(Edge.people(2, 0, 3) + "b8;");
        for (int q = -40; q < 80; q++) {
            boolean told = q == 0 || q == 1;
            due("wants(" + q + ")", x.wants(q), told ? 3 : BAD);
            due("leave(" + q + ")", x.leave(q), told ? 3 : BAD);
            due("falls(" + q + ")", x.falls(q), told ? 1 : BAD);
        }
        for (int far : Edge.FAR) {
            due("wants(" + far + ")", x.wants(far), BAD);
            due("leave(" + far + ")", x.leave(far), BAD);
            due("falls(" + far + ")", x.falls(far), BAD);
        }
    }
}
