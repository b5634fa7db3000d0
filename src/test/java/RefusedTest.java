import java.util.ArrayList;
import java.util.List;

/**
 * "Of several the first; nothing changes then": twins, of whom one is asked in
 * between what is refused (or what only asks), must answer alike ever after,
 * down to the last that can be UNDONE, KEPT or laid of THE TEXT.
 */
public final class RefusedTest {
    private static final int BAD = Edge.BAD, NO = Edge.NO, FULL = Edge.FULL, NONE = Edge.NONE;

    private interface Call {
        int on(LeavingVote x);
    }

    private record Row(String name, Call call, int want) {
    }

    private interface Maker {
        LeavingVote make();
    }

    private static final List<Row> ROWS = new ArrayList<>();

    public static void main(String[] args) {
        bad();
        state("BAD in the first state", LeavingVote::new);
        state("BAD in the midst", RefusedTest::midst);
        state("BAD where all is full", RefusedTest::full);
        state("BAD with 200 letters", RefusedTest::longText);
        state("BAD with an ISLANDER and no BOAT", RefusedTest::small);
        ROWS.clear();
        row("undo()", x -> x.undo(), NO);
        row("back()", x -> x.back(), NO);
        row("lay()", x -> x.lay(), NO);
        row("help(0, 0)", x -> x.help(0, 0), NONE);
        row("help(1, 1)", x -> x.help(1, 1), NONE);
        state("NO and NONE in the first state", LeavingVote::new);
        ROWS.clear();
        row("lay()", x -> x.lay(), NO);
        state("NO in the midst, with a text that has a fault", RefusedTest::midst);
        ROWS.clear();
        row("seen(0, 0)", x -> x.seen(0, 0), FULL);
        row("seen(1, 8)", x -> x.seen(1, 8), FULL);
        row("keep()", x -> x.keep(), FULL);
        state("FULL of what is SEEN and KEPT", RefusedTest::full);
        ROWS.clear();
        row("write(32)", x -> x.write(32), FULL);
        row("write(';')", x -> x.write(';'), FULL);
        row("write(126)", x -> x.write(126), FULL);
        row("write('0')", x -> x.write('0'), FULL);
        state("FULL of letters", RefusedTest::longText);
        ROWS.clear();
        row("by(0, 0)", x -> x.by(0, 0), NONE);
        row("win(0)", x -> x.win(0), NONE);
        row("beds(0)", x -> x.beds(0), NONE);
        row("fill()", x -> x.fill(), NONE);
        row("help(0, 0)", x -> x.help(0, 0), NONE);
        row("oars(1)", x -> x.oars(1), NONE);
        row("fault()", x -> x.fault(), NONE);
        state("NONE with an ISLANDER and no BOAT", RefusedTest::small);
        asking();
        Edge.end("RefusedTest");
    }

    private static void row(String name, Call call, int want) {
        ROWS.add(new Row(name, call, want));
    }

    /** Every argument of every call that can be refused, out of its bounds next to them and far away. */
    private static void bad() {
        for (int k : new int[] {Integer.MIN_VALUE, -1, 31, 127, 128, 256 + 'b', 65536 + 'b', Integer.MAX_VALUE}) {
            row("write(" + k + ")", x -> x.write(k), BAD);
        }
        for (int k : new int[] {Integer.MIN_VALUE, -2, -1, 8, 9, 32, 40, 256, Integer.MAX_VALUE}) {
            row("islander(" + k + ", 0)", x -> x.islander(k, 0), BAD);
            row("islander(0, " + k + ")", x -> x.islander(0, k), BAD);
            row("boat(" + k + ", 0)", x -> x.boat(k, 0), BAD);
            row("boat(0, " + k + ")", x -> x.boat(0, k), BAD);
            row("wants(" + k + ")", x -> x.wants(k), BAD);
            row("leave(" + k + ")", x -> x.leave(k), BAD);
            row("by(" + k + ", 0)", x -> x.by(k, 0), BAD);
            row("by(0, " + k + ")", x -> x.by(0, k), BAD);
            row("falls(" + k + ")", x -> x.falls(k), BAD);
            row("milked(" + k + ", 0)", x -> x.milked(k, 0), BAD);
            row("milked(0, " + k + ")", x -> x.milked(0, k), BAD);
            row("lean(" + k + ", 3)", x -> x.lean(k, 3), BAD);
            row("lean(0, " + k + ")", x -> x.lean(0, k), BAD);
            row("mind(" + k + ", 0)", x -> x.mind(k, 0), BAD);
            row("mind(0, " + k + ")", x -> x.mind(0, k), BAD);
            row("hold(" + k + ")", x -> x.hold(k), BAD);
            row("weather(" + k + ")", x -> x.weather(k), BAD);
            row("decides(" + k + ")", x -> x.decides(k), BAD);
            row("win(" + k + ")", x -> x.win(k), BAD);
            row("beds(" + k + ")", x -> x.beds(k), BAD);
            row("help(" + k + ", 0)", x -> x.help(k, 0), BAD);
            row("help(0, " + k + ")", x -> x.help(0, k), BAD);
            row("both(" + k + ")", x -> x.both(k), BAD);
            row("seen(" + k + ", 0)", x -> x.seen(k, 0), BAD);
            row("oars(" + k + ")", x -> x.oars(k), BAD);
            row("odds(" + k + ", 0)", x -> x.odds(k, 0), BAD);
            row("odds(0, " + k + ")", x -> x.odds(0, k), BAD);
            row("months(0, 1, " + k + ")", x -> x.months(0, 1, k), BAD);
        }
        for (int k : new int[] {Integer.MIN_VALUE, -1, 12, 13, 32, 256, Integer.MAX_VALUE}) {
            row("count(" + k + ")", x -> x.count(k), BAD);
            row("seen(0, " + k + ")", x -> x.seen(0, k), BAD);
            row("seen(1, " + k + ")", x -> x.seen(1, k), BAD);
        }
        for (int k : new int[] {Integer.MIN_VALUE, -256, -1, 256, 257, 65536, Integer.MAX_VALUE}) {
            row("asked(" + k + ")", x -> x.asked(k), BAD);
            row("months(0, " + k + ", 0)", x -> x.months(0, k, 0), BAD);
        }
        for (int k : new int[] {Integer.MIN_VALUE, -1, 10000, 65536, Integer.MAX_VALUE}) {
            row("months(" + k + ", 1, 0)", x -> x.months(k, 1, 0), BAD);
        }
        row("months(0, 0, 0)", x -> x.months(0, 0, 0), BAD);
        row("months(0, 61, 0)", x -> x.months(0, 61, 0), BAD);
        row("lean(0, 4)", x -> x.lean(0, 4), BAD);
        row("weather(2)", x -> x.weather(2), BAD);
        row("seen(2, 0)", x -> x.seen(2, 0), BAD);
        row("seen(0, 9)", x -> x.seen(0, 9), BAD);
    }

    /** What only asks changes nothing either, whatever it answers. */
    private static void asking() {
        ROWS.clear();
        for (int q = 0; q < 2; q++) {
            int k = q;
            row("islander", x -> x.islander(0, k), 0);
            row("boat", x -> x.boat(0, k), 0);
            row("wants", x -> x.wants(k), 0);
            row("leave", x -> x.leave(k), 0);
            row("by", x -> x.by(k, 0), 0);
            row("falls", x -> x.falls(k), 0);
            row("milked", x -> x.milked(k, 0), 0);
            row("milked", x -> x.milked(k, 1), 0);
            row("decides", x -> x.decides(k), 0);
            row("win", x -> x.win(k), 0);
            row("beds", x -> x.beds(k), 0);
            row("help", x -> x.help(k, 0), 0);
            row("help", x -> x.help(k, 1), 0);
            row("both", x -> x.both(k), 0);
            row("oars", x -> x.oars(k), 0);
            row("odds", x -> x.odds(k, 0), 0);
            row("odds", x -> x.odds(k, 1), 0);
            row("asked", x -> x.asked(k), 0);
            row("months", x -> x.months(17, 60, k), 0);
            row("count", x -> x.count(k), 0);
        }
        row("fill", x -> x.fill(), 0);
        row("fault", x -> x.fault(), 0);
        Maker[] makers = {LeavingVote::new, RefusedTest::midst, RefusedTest::full, RefusedTest::longText, RefusedTest::small};
        Edge.sentence("promises 4, 6 to 12, 18 to 23, 26 to 29, 32", "what only asks changes nothing");
        for (int m = 0; m < makers.length; m++) {
            for (Row row : ROWS) {
                LeavingVote x = makers[m].make();
                int first = row.call.on(x);
                Edge.due(row.name + " again, state " + m, row.call.on(x), first);
                alike(row.name + ", state " + m, makers[m].make(), x);
            }
        }
    }

    private static void state(String what, Maker maker) {
        Edge.sentence(what, "nothing changes then");
        List<Integer> want = drained(maker.make());
        for (Row row : ROWS) {
            LeavingVote x = maker.make();
            Edge.due(row.name, row.call.on(x), row.want);
            Edge.due(row.name + " again", row.call.on(x), row.want);
            same(row.name, drained(x), want);
        }
    }

    private static void alike(String call, LeavingVote x, LeavingVote y) {
        same(call, drained(y), drained(x));
    }

    private static void same(String call, List<Integer> got, List<Integer> want) {
        Edge.due("how many answers there are after " + call, got.size(), want.size());
        for (int k = 0; k < Math.min(got.size(), want.size()); k++) {
            Edge.due("answer " + k + " after " + call, got.get(k), want.get(k));
        }
    }

    private static LeavingVote midst() {
        LeavingVote x = new LeavingVote();
        x.keep();
        x.lean(2, 3);
        x.mind(3, 4);
        x.hold(1);
        x.weather(0);
        x.weather(1);
        x.seen(0, 4);
        x.seen(1, 4);
        Edge.write(x, "i2,3,0,9;b4;d");
        return x;
    }

    private static LeavingVote full() {
        LeavingVote x = new LeavingVote();
        x.lean(7, 1);
        x.keep();
        x.lean(6, 1);
        x.mind(3, 7);
        x.hold(0);
        x.keep();
        x.hold(1);
        x.lean(5, 3);
        x.mind(4, 0);
        x.weather(0);
        x.hold(1);
        x.weather(0);
        for (int k = 0; k < 4; k++) {
            x.seen(0, 4);
            x.seen(1, 2);
        }
        Edge.write(x, "i1,1,0,0;s1;");
        return x;
    }

    private static LeavingVote longText() {
        LeavingVote x = Edge.written(Edge.people(8, 2, 0b10011010) + Edge.times(5, "b8;") + Edge.times(35, "d3;") + "m11;m12;");
        x.hold(0);
        return x;
    }

    private static LeavingVote small() {
        LeavingVote x = Edge.laid("i1,1,0,9;m9;");
        x.lean(0, 3);
        x.keep();
        x.seen(0, 7);
        return x;
    }

    /** What an object can be brought to say, until all is taken back; with what went before no more than 512 calls. */
    private static List<Integer> drained(LeavingVote x) {
        List<Integer> all = new ArrayList<>();
        for (int what = 0; what < 12; what++) {
            all.add(x.count(what));
        }
        for (int i = 0; i < 8; i++) {
            all.add(x.islander(i, 0));
            all.add(x.islander(i, 3));
        }
        for (int b = 0; b < 5; b++) {
            all.add(x.boat(b, 0));
        }
        all.add(x.oars(0));
        all.add(x.oars(1));
        all.add(x.odds(0, 0));
        all.add(x.odds(0, 1));
        all.add(x.fault());
        standing(x, all);
        int left = 9;
        for (int k = 0; k < 9 && left >= 0; k++) {
            left = x.undo();
            all.add(left);
            standing(x, all);
        }
        left = 2;
        for (int k = 0; k < 3 && left >= 0; k++) {
            left = x.back();
            all.add(left);
            standing(x, all);
        }
        all.add(x.forget());
        all.add(x.write(';'));
        all.add(x.fault());
        all.add(x.lay());
        for (int what = 0; what < 12; what++) {
            all.add(x.count(what));
        }
        standing(x, all);
        return all;
    }

    private static void standing(LeavingVote x, List<Integer> all) {
        int leanings = 0;
        int minds = 0;
        for (int i = 0; i < 8; i++) {
            if (all.get(0) > i) {
                leanings = leanings * 4 + x.islander(i, 1);
                minds = minds * 8 + x.islander(i, 2);
            }
        }
        all.add(leanings);
        all.add(minds);
        all.add(x.boat(0, 1));
        all.add(x.boat(1, 1));
        all.add(x.count(3));
        all.add(x.count(4));
    }
}
