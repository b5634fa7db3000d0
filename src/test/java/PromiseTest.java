/** For each promise of the document: ordinary inputs, the edges that it names, and wrong inputs. */
public final class PromiseTest {
    private static final int BAD = -1, NO = -2, FULL = -3, NONE = -4;
    private static final String FIRST =
        "i0,1,0,2;i0,3,0,1;i1,1,0,0;i2,0,1,3;i2,2,5,1;i2,0,4,0;i3,3,0,4;i0,0,0,2;b2;b3;d4;m6;h5;s3;";

    private static int promise = 0;
    private static int wrong = 0;

    public static void main(String[] args) {
        promise = 1; newObject();
        promise = 2; write();
        promise = 3; wipe();
        promise = 4; fault();
        promise = 5; lay();
        promise = 6; islander();
        promise = 7; boat();
        promise = 8; wants();
        promise = 9; leave();
        promise = 10; by();
        promise = 11; falls();
        promise = 12; milked();
        promise = 13; lean();
        promise = 14; mind();
        promise = 15; hold();
        promise = 16; weather();
        promise = 17; undo();
        promise = 18; decides();
        promise = 19; win();
        promise = 20; fill();
        promise = 21; beds();
        promise = 22; help();
        promise = 23; both();
        promise = 24; seen();
        promise = 25; forget();
        promise = 26; oars();
        promise = 27; odds();
        promise = 28; asked();
        promise = 29; months();
        promise = 30; keep();
        promise = 31; back();
        promise = 32; count();
        System.out.println(wrong == 0 ? "PromiseTest: all as due" : "PromiseTest: " + wrong + " wrong");
        if (wrong != 0) {
            System.exit(1);
        }
    }

    private static void due(String call, int got, int want) {
        if (got != want) {
            wrong++;
            System.out.println("promise " + promise + ": " + call + " answered " + got + ", due is " + want);
        }
    }

    private static void put(LeavingVote x, String text) {
        x.wipe();
        for (int i = 0; i < text.length(); i++) {
            due("write " + text.charAt(i), x.write(text.charAt(i)), i + 1);
        }
    }

    private static LeavingVote laid(String text) {
        LeavingVote x = new LeavingVote();
        put(x, text);
        if (x.lay() < 1) {
            wrong++;
            System.out.println("promise " + promise + ": not laid: " + text);
        }
        return x;
    }

    private static int faultOf(String text) {
        LeavingVote x = new LeavingVote();
        put(x, text);
        return x.fault();
    }

    private static int layOf(String text) {
        LeavingVote x = new LeavingVote();
        put(x, text);
        return x.lay();
    }

    private static void newObject() {
        due("BAD", LeavingVote.BAD, -1);
        due("NO", LeavingVote.NO, -2);
        due("FULL", LeavingVote.FULL, -3);
        due("NONE", LeavingVote.NONE, -4);
        LeavingVote x = new LeavingVote();
        int[] counts = {8, 2, 0, 0, 0, 4, 6, 5, 0, 0, 0, 0};
        for (int what = 0; what < counts.length; what++) {
            due("count " + what, x.count(what), counts[what]);
        }
        int[][] told = {{0, 1, 0, 2}, {0, 3, 0, 1}, {1, 1, 0, 0}, {2, 0, 1, 3}, {2, 2, 5, 1}, {2, 0, 4, 0}, {3, 3, 0, 4}, {0, 0, 0, 2}};
        for (int i = 0; i < 8; i++) {
            for (int what = 0; what < 4; what++) {
                due("islander " + i + " " + what, x.islander(i, what), told[i][what]);
            }
        }
        due("boat 0", x.boat(0, 0), 2);
        due("boat 1", x.boat(1, 0), 3);
        due("odds below", x.odds(0, 1), 10);
    }

    private static void write() {
        LeavingVote x = new LeavingVote();
        due("31", x.write(31), BAD);
        due("127", x.write(127), BAD);
        due("-1", x.write(-1), BAD);
        due("105 + 65536", x.write(105 + 65536), BAD);
        due("32", x.write(32), 1);
        due("126", x.write(126), 2);
        for (int k = 3; k <= 200; k++) {
            due("letter " + k, x.write('a'), k);
        }
        due("letter 201", x.write('a'), FULL);
        due("a bad letter 201", x.write(127), BAD);
        due("count", x.count(11), 200);
    }

    private static void wipe() {
        LeavingVote x = new LeavingVote();
        due("empty", x.wipe(), 0);
        x.write('i');
        x.write('0');
        due("of two", x.wipe(), 2);
        due("again", x.wipe(), 0);
        due("then", x.write('b'), 1);
        due("laid stays", x.count(0), 8);
    }

    private static void fault() {
        due("empty", faultOf(""), NONE);
        due("first text", faultOf(FIRST), NONE);
        due("two figures", faultOf("i00,01,07,09;b08;d09;m40;h01;s10;"), NONE);
        due("zero of those that may", faultOf("i0,0,0,0;d0;m0;s0;"), NONE);
        String[] faulty = {
            "i4,0,0,0;", "i0,4,0,0;", "i0,0,8,0;", "i0,0,0,10;", "b0;", "b9;", "d10;", "m41;", "h0;", "h10;", "s11;",
            "i0,0,0;", "i0,0,0,0,0;", "b1,1;", "b;", "b", "b1", "b1,", "b001;", "b1 ;", " b1;", ";", "B1;", "a1;", "i0,0,0,0",
            "i0;0;0;0;", "i0,,0,0;", "b-1;", "1;", "m1:", "b1/;", "b:;", "x", "j0,0,0,0;",
        };
        for (String item : faulty) {
            due(item, faultOf(item), 0);
            due("b1;" + item, faultOf("b1;" + item), 3);
            due("i3,3,7,9;" + item + "h0;", faultOf("i3,3,7,9;" + item + "h0;"), 9);
        }
        due("an empty item", faultOf("b1;;"), 3);
        String eight = "i0,0,0,0;i0,0,0,0;i0,0,0,0;i0,0,0,0;i0,0,0,0;i0,0,0,0;i0,0,0,0;i0,0,0,0;";
        due("eight islanders", faultOf(eight), NONE);
        due("nine islanders", faultOf(eight + "b1;i0,0,0,0;"), 75);
        due("five boats", faultOf("b1;b1;b1;b1;b1;"), NONE);
        due("six boats", faultOf("b1;b1;b1;b1;b1;d1;b1;"), 18);
        LeavingVote x = new LeavingVote();
        due("other items as often as one likes", faultOf("d1;d2;d3;d4;d5;d6;d7;d8;d9;m1;m2;h1;h2;s1;s2;"), NONE);
        for (int k = 1; k <= 200; k++) {
            x.write(k % 4 == 0 ? ';' : k % 4 == 1 ? 'm' : '3');
        }
        due("200 letters", x.fault(), NONE);
        x.wipe();
        x.write('m');
        due("the text as it is", x.fault(), 0);
        due("what is laid stays", x.count(6), 6);
    }

    private static void lay() {
        due("none told", layOf(""), NO);
        due("no islander", layOf("b1;d3;"), NO);
        due("a fault", layOf("i0,0,0,0;b9;"), NO);
        due("minds nobody", layOf("i0,0,1,0;"), NO);
        due("a plain one, too, must mind such as there are", layOf("i0,0,0,0;i3,0,2,0;"), NO);
        due("minds a later one", layOf("i0,0,1,0;i0,0,0,0;"), 2);
        LeavingVote x = new LeavingVote();
        x.hold(1);
        x.weather(0);
        x.weather(1);
        x.keep();
        x.seen(0, 1);
        due("no", x.lay(), NO);
        due("nothing changes", x.count(2) + x.count(3) + x.count(4) + x.count(8) + x.count(10), 5);
        due("nothing changes", x.count(9), 3);
        put(x, "d8;i1,2,0,3;d7;h9;h8;m39;m38;");
        due("lay", x.lay(), 1);
        int[] counts = {1, 0, 0, 0, 0, 7, 38, 8, 0, 0, 0, 29};
        for (int what = 0; what < counts.length; what++) {
            due("count " + what, x.count(what), counts[what]);
        }
        x = laid("i0,1,0,0;b1;");
        due("beds without", x.count(5), 4);
        due("cows without", x.count(6), 0);
        due("tenths without", x.count(7), 5);
        x = laid("i1,1,0,0;b1;");
        due("seasick without", x.odds(0, 0), 7);
        x = laid("i1,1,0,0;b1;s9;s8;");
        due("the last seasick", x.odds(0, 0), 1);
        due("the last seasick", x.odds(0, 1), 5);
        x.lean(0, 0);
        due("again", x.lay(), 1);
        due("as told again", x.islander(0, 1), 1);
        x = laid("i2,1,0,9;i2,0,0,1;i1,1,0,0;");
        due("the boats of before are none", x.leave(0), 0);
        due("the cows of before are none", x.milked(0, 0), 10);
    }

    private static void islander() {
        LeavingVote x = new LeavingVote();
        due("kind", x.islander(6, 0), 3);
        due("leaning", x.islander(1, 1), 3);
        due("minds", x.islander(4, 2), 5);
        due("cows", x.islander(3, 3), 3);
        due("-1", x.islander(-1, 0), BAD);
        due("8", x.islander(8, 0), BAD);
        due("what 4", x.islander(0, 4), BAD);
        due("what -1", x.islander(0, -1), BAD);
        x = laid("i3,2,1,9;i0,0,0,0;");
        due("kind", x.islander(0, 0), 3);
        due("leaning", x.islander(0, 1), 2);
        due("minds", x.islander(0, 2), 1);
        due("cows", x.islander(0, 3), 9);
        due("2 of 2", x.islander(2, 0), BAD);
    }

    private static void boat() {
        LeavingVote x = new LeavingVote();
        due("seats", x.boat(1, 0), 3);
        due("held", x.boat(1, 1), 0);
        x.hold(1);
        due("held", x.boat(1, 1), 1);
        due("the other", x.boat(0, 1), 0);
        due("seats of a held one", x.boat(1, 0), 3);
        due("-1", x.boat(-1, 0), BAD);
        due("2", x.boat(2, 0), BAD);
        due("what 2", x.boat(0, 2), BAD);
        due("what -1", x.boat(0, -1), BAD);
    }

    private static void wants() {
        LeavingVote x = new LeavingVote();
        due("q0", x.wants(0), 0b1111);
        due("q1", x.wants(1), 0b11010);
        due("-1", x.wants(-1), BAD);
        due("2", x.wants(2), BAD);
        x.weather(0);
        due("storm", x.wants(0), 0);
        x.weather(1);
        due("storm and ice", x.wants(0), 0b1000111);
        due("storm and ice", x.wants(1), 0b1010010);
        x.weather(0);
        due("ice", x.wants(0), 0b1000111);
        x = laid("i2,0,1,0;i2,0,2,0;i2,0,3,0;i0,1,0,0;i3,1,0,0;i2,1,4,0;i2,1,6,0;i2,0,6,0;");
        due("a long chain, one who minds a lame one, himself, one who minds him", x.wants(0), 0b11001111);
        due("all cousins of one who is for it", x.wants(1), 0);
        x = laid("i2,1,1,0;i2,0,2,0;i2,2,0,0;i2,3,0,0;i2,0,3,0;");
        due("cousins that come round, others that mind them", x.wants(0), 0b11001);
        due("cousins that come round, others that mind them", x.wants(1), 0b00100);
        x = laid("i2,0,1,0;i2,0,2,0;i2,0,3,0;i2,0,4,0;i2,0,5,0;i2,0,6,0;i2,0,7,0;i2,3,0,0;");
        due("eight that come round", x.wants(0), 0b10000000);
        x = laid("i2,0,1,0;i2,0,2,0;i2,0,3,0;i2,0,4,0;i2,0,5,0;i2,0,6,0;i2,0,7,0;i2,3,7,0;");
        due("seven behind one", x.wants(1), 255);
    }

    private static void leave() {
        LeavingVote x = new LeavingVote();
        due("q0", x.leave(0), 0b1111);
        due("q1", x.leave(1), 0b11010);
        x.hold(0);
        due("three seats", x.leave(0), 0b111);
        x.hold(1);
        due("no seats", x.leave(0), 0);
        x.weather(1);
        due("ice needs no seats", x.leave(0), 0b1000111);
        x.weather(0);
        due("storm and ice", x.leave(0), 0b1000111);
        x.weather(1);
        due("storm", x.leave(0), 0);
        due("-1", x.leave(-1), BAD);
        due("2", x.leave(2), BAD);
        x = laid("i0,3,0,0;i0,1,0,0;i0,3,0,0;b8;d2;");
        due("two beds", x.leave(0), 0b011);
        due("two beds", x.leave(1), 0b101);
        x.weather(1);
        due("two beds by ice", x.leave(0), 0b011);
        x = laid("i0,3,0,0;i0,1,0,0;i0,3,0,0;b8;d0;");
        due("no beds", x.leave(0), 0);
        x = laid("i0,3,0,0;i0,1,0,0;i0,3,0,0;d9;");
        due("no boats", x.leave(0), 0);
    }

    private static void by() {
        LeavingVote x = new LeavingVote();
        int[] boats = {0, 0, 1, 1, NONE, NONE, NONE, NONE};
        for (int i = 0; i < 8; i++) {
            due("q0 " + i, x.by(0, i), boats[i]);
        }
        x.hold(0);
        due("held", x.by(0, 0), 1);
        due("no seat", x.by(0, 3), NONE);
        x.weather(1);
        due("by ice", x.by(0, 0), NONE);
        due("q -1", x.by(-1, 0), BAD);
        due("q 2", x.by(2, 0), BAD);
        due("i -1", x.by(0, -1), BAD);
        due("i 8", x.by(0, 8), BAD);
        x = laid("i0,1,0,0;i0,0,0,0;i0,1,0,0;i0,1,0,0;i0,1,0,0;i0,1,0,0;b1;b2;b1;b1;d4;");
        x.hold(1);
        int[] then = {0, NONE, 2, 3, NONE, NONE};
        for (int i = 0; i < 6; i++) {
            due("then " + i, x.by(0, i), then[i]);
        }
        x.hold(1);
        int[] last = {0, NONE, 1, 1, 2, NONE};
        for (int i = 0; i < 6; i++) {
            due("last, the fifth has a seat and no bed " + i, x.by(0, i), last[i]);
        }
    }

    private static void falls() {
        LeavingVote x = new LeavingVote();
        due("4 of 8, half", x.falls(0), 1);
        due("3 of 8", x.falls(1), 0);
        due("-1", x.falls(-1), BAD);
        due("2", x.falls(2), BAD);
        due("3 of 7 by 4 tenths", laid("i0,1,0,0;i0,1,0,0;i0,1,0,0;i0,0,0,0;i0,0,0,0;i0,0,0,0;i0,0,0,0;b8;h4;").falls(0), 1);
        due("3 of 7 by 5 tenths", laid("i0,1,0,0;i0,1,0,0;i0,1,0,0;i0,0,0,0;i0,0,0,0;i0,0,0,0;i0,0,0,0;b8;h5;").falls(0), 0);
        due("1 of 2 by 5", laid("i0,1,0,0;i0,0,0,0;b8;").falls(0), 1);
        due("1 of 2 by 6", laid("i0,1,0,0;i0,0,0,0;b8;h6;").falls(0), 0);
        due("0 of 1 by 1", laid("i0,0,0,0;b8;h1;").falls(0), 0);
    }

    private static void milked() {
        LeavingVote x = new LeavingVote();
        due("cows", x.milked(0, 0), 7);
        due("milked", x.milked(0, 1), 1);
        due("cows", x.milked(1, 0), 8);
        due("q -1", x.milked(-1, 0), BAD);
        due("q 2", x.milked(2, 1), BAD);
        due("what -1", x.milked(0, -1), BAD);
        due("what 2", x.milked(0, 2), BAD);
        x = laid("i0,1,0,3;i0,0,0,6;b1;m6;");
        due("just so many", x.milked(0, 1), 1);
        due("more", x.milked(1, 0), 9);
        x = laid("i0,1,0,3;i0,0,0,6;b1;m7;");
        due("one too few", x.milked(0, 1), 0);
        due("nobody leaves", x.milked(1, 1), 1);
        x = laid("i0,1,0,9;b1;");
        due("no cows to be milked", x.milked(0, 1), 1);
    }

    private static void lean() {
        LeavingVote x = new LeavingVote();
        due("was", x.lean(1, 0), 3);
        due("wants", x.wants(0), 0b101);
        due("was then", x.lean(1, 2), 0);
        due("is", x.islander(1, 1), 2);
        due("0 to 3", x.lean(0, 3), 1);
        due("l 4", x.lean(0, 4), BAD);
        due("l -1", x.lean(0, -1), BAD);
        due("i 8", x.lean(8, 0), BAD);
        due("i -1", x.lean(-1, 0), BAD);
        due("changes", x.count(9), 3);
        due("the same again", x.lean(0, 3), 3);
        due("is a change", x.count(9), 4);
    }

    private static void mind() {
        LeavingVote x = new LeavingVote();
        due("was", x.mind(4, 7), 5);
        due("wants", x.wants(1), 0b1010);
        due("himself", x.mind(4, 4), 7);
        due("wants", x.wants(1), 0b111010);
        due("is", x.islander(4, 2), 4);
        due("j 8", x.mind(0, 8), BAD);
        due("j -1", x.mind(0, -1), BAD);
        due("i 8", x.mind(8, 0), BAD);
        due("i -1", x.mind(-1, 0), BAD);
        due("changes", x.count(9), 2);
        x = laid("i0,0,0,0;");
        due("such as there are", x.mind(0, 1), BAD);
    }

    private static void hold() {
        LeavingVote x = new LeavingVote();
        due("held", x.hold(1), 1);
        due("leave", x.leave(0), 0b11);
        due("let go", x.hold(1), 0);
        due("leave", x.leave(0), 0b1111);
        due("-1", x.hold(-1), BAD);
        due("2", x.hold(2), BAD);
        due("changes", x.count(9), 2);
    }

    private static void weather() {
        LeavingVote x = new LeavingVote();
        due("storm", x.weather(0), 1);
        due("storm", x.count(3), 1);
        due("ice", x.weather(1), 1);
        due("ice", x.count(4), 1);
        due("storm ends", x.weather(0), 0);
        due("ice is left", x.count(4), 1);
        due("ice ends", x.weather(1), 0);
        due("-1", x.weather(-1), BAD);
        due("2", x.weather(2), BAD);
        due("changes", x.count(9), 4);
    }

    private static void undo() {
        LeavingVote x = new LeavingVote();
        due("nothing", x.undo(), NO);
        x.lean(0, 2);
        x.mind(0, 3);
        x.hold(1);
        x.weather(0);
        x.weather(1);
        due("ice", x.undo(), 4);
        due("ice", x.count(4), 0);
        due("storm", x.count(3), 1);
        due("storm", x.undo(), 3);
        due("storm", x.count(3), 0);
        due("held", x.boat(1, 1), 1);
        due("held", x.undo(), 2);
        due("held", x.boat(1, 1), 0);
        due("mind", x.undo(), 1);
        due("mind", x.islander(0, 2), 0);
        due("leaning", x.islander(0, 1), 2);
        due("leaning", x.undo(), 0);
        due("leaning", x.islander(0, 1), 1);
        due("nothing more", x.undo(), NO);
        int[] leanings = {0, 3, 2, 0, 1, 2, 0, 1, 2, 0};
        for (int leaning : leanings) {
            x.lean(0, leaning);
        }
        due("eight at most", x.count(9), 8);
        for (int k = 7; k >= 0; k--) {
            due("undo", x.undo(), k);
        }
        due("the two first are left", x.islander(0, 1), 3);
        due("nothing more", x.undo(), NO);
    }

    private static void decides() {
        LeavingVote x = new LeavingVote();
        due("q0", x.decides(0), 0b111);
        due("q1", x.decides(1), 0b10100101);
        due("-1", x.decides(-1), BAD);
        due("2", x.decides(2), BAD);
        x.weather(0);
        due("storm", x.decides(0), 0);
        x.weather(1);
        due("ice", x.decides(0), 0b1000111);
        due("nothing changes", x.wants(0), 0b1000111);
        due("nothing changes", x.count(9), 2);
    }

    private static void win() {
        LeavingVote x = new LeavingVote();
        due("q0", x.win(0), 1);
        due("q1", x.win(1), 1);
        due("-1", x.win(-1), BAD);
        due("2", x.win(2), BAD);
        x.weather(0);
        due("storm", x.win(0), NONE);
        x = laid("i3,0,0,0;i0,0,0,0;i0,0,0,0;i0,0,0,0;b8;h5;");
        due("two of four, the lowest", x.win(0), 0b0110);
        x.lean(2, 1);
        due("one", x.win(0), 0b0010);
        x = laid("i0,0,0,0;i0,0,0,0;i0,0,0,0;i2,0,4,0;i1,0,4,0;b8;h4;");
        due("one by whom a cousin goes rather than two", x.win(0), 0b10000);
        x = laid("i0,1,0,0;i0,1,0,0;i0,1,0,0;i0,1,0,0;b8;h1;");
        due("all, so that it does not", x.win(0), 0b1111);
        due("one, so that it does", x.win(1), 1);
        due("nothing changes", x.leave(1), 0);
    }

    private static void fill() {
        LeavingVote x = new LeavingVote();
        due("the lowest four", x.fill(), 0b1111);
        x.hold(0);
        due("no seats", x.fill(), NONE);
        x.weather(0);
        due("a storm does not matter", x.fill(), NONE);
        x.hold(0);
        due("a storm does not matter", x.fill(), 0b1111);
        x.weather(1);
        x.hold(0);
        x.hold(1);
        due("by ice without seats", x.fill(), 0b1111);
        x = laid("i3,0,0,0;i0,0,0,9;i0,0,0,0;b1;h3;m9;");
        due("no lame one, the cows milked", x.fill(), 0b100);
        x.weather(1);
        due("a lame one by ice", x.fill(), 0b001);
        due("just so many cows", laid("i0,0,0,1;i0,0,0,2;b1;m2;").fill(), 0b01);
        due("one cow more", laid("i0,0,0,2;i0,0,0,3;b1;m3;").fill(), 0b01);
        due("too many cows", laid("i0,0,0,2;i0,0,0,2;b1;m3;").fill(), NONE);
        due("no beds", laid("i0,0,0,0;b1;d0;").fill(), NONE);
        due("a bed", laid("i0,0,0,0;b1;d1;").fill(), 1);
        due("no boat", laid("i0,0,0,0;d1;").fill(), NONE);
        due("beds by ice, too", iced("i0,0,0,0;d0;").fill(), NONE);
    }

    private static LeavingVote iced(String text) {
        LeavingVote x = laid(text);
        x.weather(1);
        return x;
    }

    private static void beds() {
        LeavingVote x = new LeavingVote();
        due("q0", x.beds(0), 4);
        due("q1", x.beds(1), NONE);
        due("-1", x.beds(-1), BAD);
        due("2", x.beds(2), BAD);
        due("nothing changes", x.count(5), 4);
        x = laid("i0,1,0,0;i0,1,0,0;i0,1,0,0;i0,1,0,0;i0,1,0,0;i0,1,0,0;i0,1,0,0;i0,1,0,0;b4;b4;d0;h9;");
        due("eight", x.beds(0), 8);
        due("nobody wants", x.beds(1), NONE);
        x.hold(0);
        due("seats are short", x.beds(0), NONE);
        x.weather(1);
        due("ice", x.beds(0), 8);
        due("one", laid("i0,1,0,0;b4;d9;h1;").beds(0), 1);
    }

    private static void help() {
        LeavingVote x = new LeavingVote();
        due("none is held", x.help(0, 0), NONE);
        due("none is held", x.help(0, 1), NONE);
        x.hold(0);
        x.hold(1);
        due("the larger", x.help(0, 0), 1);
        due("the larger", x.help(0, 1), 3);
        x.hold(0);
        due("with the other", x.help(0, 1), 4);
        x.hold(0);
        x.weather(0);
        due("storm, the first", x.help(0, 0), 0);
        due("storm, nobody", x.help(0, 1), 0);
        x.weather(1);
        due("ice, the first", x.help(0, 0), 0);
        due("ice", x.help(0, 1), 4);
        due("nothing changes", x.count(2), 2);
        due("q -1", x.help(-1, 0), BAD);
        due("q 2", x.help(2, 0), BAD);
        due("what -1", x.help(0, -1), BAD);
        due("what 2", x.help(0, 2), BAD);
        x = laid("i0,1,0,0;i0,1,0,0;i0,3,0,0;b1;b2;b2;b1;");
        x.hold(0);
        x.hold(2);
        x.hold(3);
        due("two more than by boat 1 are not there, the first that takes one", x.help(0, 0), 0);
        x.hold(1);
        due("the first of two equal", x.help(0, 0), 1);
        due("on the other question the first of all", x.help(1, 0), 0);
    }

    private static void both() {
        LeavingVote x = new LeavingVote();
        due("q0", x.both(0), 2);
        due("q1", x.both(1), 1);
        due("-1", x.both(-1), BAD);
        due("2", x.both(2), BAD);
        x.hold(0);
        due("held", x.both(0), 0);
        due("who wants both has no seat on 1 for that", x.both(1), 1);
        x.hold(0);
        x.weather(0);
        due("storm", x.both(0), 0);
        due("storm", x.both(1), 0);
        x.weather(1);
        due("ice, four beds", x.both(0), 4);
        due("ice, no bed left", x.both(1), 0);
        x = laid("i0,1,0,0;i0,1,0,0;i0,1,0,0;i0,2,0,0;i0,2,0,0;i0,2,0,0;i0,3,0,0;b1;b1;b1;b1;b1;d9;");
        due("boats 0, 2, 4", x.both(0), 3);
        due("boats 1, 3", x.both(1), 2);
        x.hold(3);
        x.hold(4);
        due("boats 0, 2", x.both(0), 2);
        due("boat 1", x.both(1), 1);
        x.weather(1);
        due("ice", x.both(0), 4);
        due("ice", x.both(1), 3);
        x = laid("i0,1,0,0;i0,2,0,0;i0,2,0,0;b8;b8;d2;");
        due("a bed", x.both(0), 1);
        due("the other bed", x.both(1), 1);
    }

    private static void seen() {
        LeavingVote x = new LeavingVote();
        due("q -1", x.seen(-1, 0), BAD);
        due("q 2", x.seen(2, 0), BAD);
        due("k -1", x.seen(0, -1), BAD);
        due("k 9", x.seen(0, 9), BAD);
        for (int k = 1; k <= 8; k++) {
            due("seen", x.seen(k % 2, k == 1 ? 0 : 8), k);
        }
        due("full", x.seen(0, 0), FULL);
        due("a wrong one", x.seen(0, 9), BAD);
        due("count", x.count(8), 8);
    }

    private static void forget() {
        LeavingVote x = new LeavingVote();
        due("nothing", x.forget(), 0);
        x.seen(0, 5);
        x.seen(0, 5);
        due("two", x.forget(), 2);
        due("count", x.count(8), 0);
        due("all sets again", x.oars(0), 4);
        due("seen anew", x.seen(0, 2), 1);
        due("the one of the three seats", x.oars(1), 2);
    }

    private static void oars() {
        LeavingVote x = new LeavingVote();
        due("all sets", x.oars(0), 4);
        due("none held", x.oars(1), 0);
        x.hold(0);
        due("in place of those that are", x.oars(1), 0);
        x.seen(0, 4);
        due("none held", x.oars(0), 1);
        due("none held", x.oars(1), 0);
        x.seen(1, 3);
        due("both so", x.oars(0), 1);
        x.forget();
        x.seen(1, 3);
        due("three", x.oars(0), 2);
        due("three", x.oars(1), 0);
        x.seen(0, 3);
        due("three of both", x.oars(0), 1);
        due("three of both", x.oars(1), 1);
        x.seen(0, 2);
        due("never", x.oars(0), 0);
        due("never", x.oars(1), NONE);
        due("what 2", x.oars(2), BAD);
        due("what -1", x.oars(-1), BAD);
        due("nothing changes", x.boat(0, 1) * 2 + x.boat(1, 1), 2);
        x.forget();
        x.seen(0, 0);
        due("both held", x.oars(1), 3);
        x.weather(0);
        due("as all is now: storm", x.oars(0), 4);
        x = laid("i0,1,0,0;b1;b1;b1;b1;b1;");
        x.seen(0, 0);
        due("five held", x.oars(1), 31);
        due("no boats", laid("i0,1,0,0;").oars(0), 1);
    }

    private static void odds() {
        LeavingVote x = new LeavingVote();
        due("7", x.odds(0, 0), 7);
        due("of 10", x.odds(0, 1), 10);
        due("0", x.odds(1, 0), 0);
        due("of 1", x.odds(1, 1), 1);
        due("q -1", x.odds(-1, 0), BAD);
        due("q 2", x.odds(2, 0), BAD);
        due("part -1", x.odds(0, -1), BAD);
        due("part 2", x.odds(0, 2), BAD);
        x.weather(0);
        due("storm", x.odds(0, 0), 0);
        due("storm", x.odds(0, 1), 1);
        x = laid("i1,1,0,0;i2,0,0,0;i1,1,0,0;i0,0,0,0;b8;s4;");
        due("the cousin's one, whatever the other does", x.odds(0, 0), 3);
        due("of 5", x.odds(0, 1), 5);
        x.weather(1);
        due("by ice both", x.odds(0, 0), 9);
        due("of 25", x.odds(0, 1), 25);
        x = laid("i1,1,0,0;i2,1,0,0;b8;h9;s5;");
        due("a cousin goes by what he does", x.odds(0, 1), 2);
        x.weather(1);
        due("by ice by his own leaning", x.odds(0, 0) * 10 + x.odds(0, 1), 12);
        x = laid("i1,1,0,0;i1,0,0,0;b8;s0;");
        due("never sick", x.odds(0, 0) * 10 + x.odds(0, 1), 11);
        x = laid("i1,1,0,0;i1,0,0,0;b8;s10;");
        due("always sick", x.odds(0, 0) * 10 + x.odds(0, 1), 1);
        x = laid("i1,1,0,0;i1,1,0,0;i1,1,0,0;i1,1,0,0;i1,1,0,0;i1,1,0,0;i1,1,0,0;i1,1,0,0;b8;d9;h9;s1;");
        due("nine in ten eight times", x.odds(0, 0), 43046721);
        due("nine in ten eight times", x.odds(0, 1), 100000000);
        x = laid("i1,1,0,0;i0,1,0,0;i0,1,0,0;b2;s9;");
        due("others take the seat", x.odds(0, 0) * 10 + x.odds(0, 1), 11);
    }

    private static void asked() {
        LeavingVote x = new LeavingVote();
        due("q0", x.asked(15), 1);
        due("q1", x.asked(26), 2);
        due("neither", x.asked(0), 0);
        due("256", x.asked(256), BAD);
        due("-1", x.asked(-1), BAD);
        due("255", x.asked(255), 0);
        x.weather(0);
        due("both", x.asked(0), 3);
        x = laid("i0,1,0,0;i0,3,0,0;i0,1,0,0;b8;");
        due("islanders there are not", x.asked(8), BAD);
        due("all", x.asked(7), 1);
        due("those who leave", x.asked(2), 2);
    }

    private static void months() {
        LeavingVote x = laid("i2,1,3,2;i0,1,0,5;i1,3,0,0;i2,2,6,3;i3,1,0,9;i2,0,0,1;i0,2,0,4;i1,1,0,2;b1;b2;b1;b3;d6;m9;h4;s6;");
        due("falls", x.months(0, 12, 0), 7);
        due("milked", x.months(0, 12, 1), 10);
        due("falls", x.months(77, 60, 0), 30);
        int falls = 0;
        int milked = 0;
        for (int month = 0; month < 60; month++) {
            long sum = 7919L * 9999 + 6151L * month + 1;
            long draw = sum * sum % 65521 / 2;
            LeavingVote y = laid("i0,1,0,0;i0,2,0,3;i3,3,0,4;i0,1,0,0;i1,3,0,0;b1;b1;m7;h4;");
            if (draw % 4 == 0) {
                y.weather(0);
            }
            if (draw % 7 == 0) {
                y.weather(1);
            }
            falls += y.falls((int) (draw / 8 % 2));
            milked += y.milked((int) (draw / 8 % 2), 1);
        }
        LeavingVote y = laid("i0,1,0,0;i0,2,0,3;i3,3,0,4;i0,1,0,0;i1,3,0,0;b1;b1;m7;h4;");
        due("60 of 9999", y.months(9999, 60, 0), falls);
        due("60 of 9999", y.months(9999, 60, 1), milked);
        y.weather(0);
        due("in place of the storm that is", y.months(9999, 60, 0), falls);
        y.weather(1);
        due("in place of the ice that is", y.months(9999, 60, 1), milked);
        due("which stay", y.count(3) + y.count(4), 2);
        due("z -1", x.months(-1, 1, 0), BAD);
        due("z 10000", x.months(10000, 1, 0), BAD);
        due("n 0", x.months(0, 0, 0), BAD);
        due("n 61", x.months(0, 61, 0), BAD);
        due("what -1", x.months(0, 1, -1), BAD);
        due("what 2", x.months(0, 1, 2), BAD);
        // the first month of z = 0: x is 1, DRAW is 0, so STORM and ICE, QUESTION 0
        due("the first month", laid("i3,1,0,0;").months(0, 1, 0), 1);
        due("the first month", laid("i3,2,0,0;").months(0, 1, 0), 0);
    }

    private static void keep() {
        LeavingVote x = new LeavingVote();
        due("one", x.keep(), 1);
        due("two", x.keep(), 2);
        due("full", x.keep(), FULL);
        due("count", x.count(10), 2);
        x.back();
        due("two again", x.keep(), 2);
        x.lean(0, 0);
        x.undo();
        x.lean(0, 0);
        due("what can be undone stays", x.count(9), 1);
    }

    private static void back() {
        LeavingVote x = new LeavingVote();
        due("nothing", x.back(), NO);
        x.seen(0, 3);
        x.keep();
        x.lean(0, 2);
        x.mind(0, 3);
        x.hold(1);
        x.weather(0);
        x.weather(1);
        x.keep();
        x.lean(0, 0);
        x.mind(0, 0);
        x.hold(1);
        x.weather(0);
        x.weather(1);
        due("the latest", x.back(), 1);
        due("leaning", x.islander(0, 1), 2);
        due("mind", x.islander(0, 2), 3);
        due("held", x.boat(1, 1), 1);
        due("weather", x.count(3) + x.count(4), 2);
        due("nothing is undone then", x.count(9), 0);
        due("nothing is undone then", x.undo(), NO);
        x.lean(0, 0);
        due("the first", x.back(), 0);
        due("leaning", x.islander(0, 1), 1);
        due("mind", x.islander(0, 2), 0);
        due("held, storm, ice", x.count(2) + x.count(3) + x.count(4), 0);
        due("what was seen stays", x.count(8), 1);
        due("no more", x.back(), NO);
        x.lean(0, 0);
        due("no more", x.back(), NO);
        due("what can be undone stays then", x.count(9), 1);
    }

    private static void count() {
        LeavingVote x = laid("i0,0,0,0;i0,0,0,0;i0,0,0,0;b1;b1;b1;b1;d8;m31;h7;s2;");
        x.hold(0);
        x.hold(3);
        x.weather(1);
        x.seen(0, 0);
        x.seen(0, 1);
        x.seen(0, 2);
        x.seen(0, 3);
        x.seen(0, 4);
        x.seen(0, 5);
        x.keep();
        int[] counts = {3, 4, 2, 0, 1, 8, 31, 7, 6, 3, 1, 52};
        for (int what = 0; what < counts.length; what++) {
            due("count " + what, x.count(what), counts[what]);
        }
        x.weather(0);
        due("storm", x.count(3), 1);
        due("-1", x.count(-1), BAD);
        due("12", x.count(12), BAD);
    }
}
