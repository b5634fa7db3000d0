import java.math.BigInteger;
import java.util.ArrayDeque;
import java.util.ArrayList;
import java.util.Arrays;
import java.util.Deque;
import java.util.List;
import java.util.regex.Matcher;
import java.util.regex.Pattern;

/**
 * Runs of drawn calls, each answered by LeavingVote and by a slow model that
 * says the document's words over again in other ways (maps of seats, walks,
 * fractions, a pattern for the text). The draws come of a fixed seed.
 */
public final class ModelTest {
    private static final int BAD = -1, NO = -2, FULL = -3, NONE = -4;
    private static final int RUNS = 1500;

    private static long seed = 20261118;

    private static int draw(int n) {
        seed = seed * 6364136223846793005L + 1442695040888963407L;
        return (int) ((seed >>> 33) % n);
    }

    public static void main(String[] args) {
        for (int run = 0; run < RUNS; run++) {
            if (!run(run)) {
                System.exit(1);
            }
        }
        System.out.println("ModelTest: " + RUNS + " runs as due");
    }

    private static boolean run(int run) {
        LeavingVote x = new LeavingVote();
        Model m = new Model();
        List<String> calls = new ArrayList<>();
        int letters = 0;
        while (calls.size() < 480) {
            if (draw(40) == 0 || calls.isEmpty() && draw(4) != 0) {
                int was = m.wipe();
                if (!same(run, calls, "wipe()", x.wipe(), was)) {
                    return false;
                }
                String text = drawText();
                for (int k = 0; k < text.length() && calls.size() < 480; k++) {
                    int c = text.charAt(k);
                    if (!same(run, calls, "write(" + c + ")", x.write(c), m.write(c))) {
                        return false;
                    }
                }
                if (!same(run, calls, "fault()", x.fault(), m.fault()) || !same(run, calls, "lay()", x.lay(), m.lay())) {
                    return false;
                }
            } else if (!call(run, calls, x, m)) {
                return false;
            }
        }
        return true;
    }

    private static boolean same(int run, List<String> calls, String call, int got, int want) {
        calls.add(call + " = " + want);
        if (got == want) {
            return true;
        }
        System.out.println("run " + run + ": " + String.join("; ", calls) + " but LeavingVote answered " + got);
        return false;
    }

    private static String drawText() {
        StringBuilder text = new StringBuilder();
        int islanders = draw(5) == 0 ? draw(10) : 1 + draw(8);
        for (int i = 0; i < islanders; i++) {
            int minds = draw(60) == 0 ? draw(8) : draw(Math.min(islanders, 8));
            text.append("i").append(draw(3) == 0 ? draw(4) : draw(2) + 1).append(",").append(draw(4)).append(",")
                .append(minds).append(",").append(draw(10)).append(";");
        }
        int boats = draw(12) == 0 ? 6 : draw(6);
        for (int b = 0; b < boats; b++) {
            text.append("b").append(1 + draw(draw(2) == 0 ? 8 : 2)).append(";");
        }
        String[] more = {"d" + draw(10), "m" + draw(41), "h" + (1 + draw(9)), "s" + draw(11), "d0" + draw(10), "s5"};
        for (String item : more) {
            if (draw(2) == 0) {
                text.append(item).append(";");
            }
        }
        if (draw(6) == 0 && text.length() > 0) {
            String signs = "ibdmhs,;0123456789 x:/";
            text.setCharAt(draw(text.length()), signs.charAt(draw(signs.length())));
        }
        if (draw(10) == 0 && text.length() > 0) {
            text.deleteCharAt(draw(text.length()));
        }
        return text.toString();
    }

    private static int near(int n) {
        return draw(25) == 0 ? draw(n + 4) - 2 : draw(n);
    }

    private static boolean call(int run, List<String> calls, LeavingVote x, Model m) {
        int n = Math.max(1, m.now.n);
        int boats = Math.max(1, m.now.boats);
        int q = near(2);
        int i = near(n);
        int e = near(2);
        switch (draw(34)) {
            case 0: { int c = near(127); return same(run, calls, "write(" + c + ")", x.write(c), m.write(c)); }
            case 1: return same(run, calls, "fault()", x.fault(), m.fault());
            case 2: return same(run, calls, "islander(" + i + ", " + (e + 2) + ")", x.islander(i, e + 2), m.islander(i, e + 2));
            case 3: { int b = near(boats); return same(run, calls, "boat(" + b + ", " + e + ")", x.boat(b, e), m.boat(b, e)); }
            case 4: return same(run, calls, "wants(" + q + ")", x.wants(q), m.wants(q));
            case 5: return same(run, calls, "leave(" + q + ")", x.leave(q), m.leave(q));
            case 6: return same(run, calls, "by(" + q + ", " + i + ")", x.by(q, i), m.by(q, i));
            case 7: return same(run, calls, "falls(" + q + ")", x.falls(q), m.falls(q));
            case 8: return same(run, calls, "milked(" + q + ", " + e + ")", x.milked(q, e), m.milked(q, e));
            case 9:
            case 10:
            case 11: { int l = near(4); return same(run, calls, "lean(" + i + ", " + l + ")", x.lean(i, l), m.lean(i, l)); }
            case 12: { int j = near(n); return same(run, calls, "mind(" + i + ", " + j + ")", x.mind(i, j), m.mind(i, j)); }
            case 13:
            case 14: { int b = near(boats); return same(run, calls, "hold(" + b + ")", x.hold(b), m.hold(b)); }
            case 15: return same(run, calls, "weather(" + e + ")", x.weather(e), m.weather(e));
            case 16: return undos(run, calls, x, m);
            case 17: return same(run, calls, "decides(" + q + ")", x.decides(q), m.decides(q));
            case 18: return same(run, calls, "win(" + q + ")", x.win(q), m.win(q));
            case 19: return same(run, calls, "fill()", x.fill(), m.fill());
            case 20: return same(run, calls, "beds(" + q + ")", x.beds(q), m.beds(q));
            case 21: return same(run, calls, "help(" + q + ", " + e + ")", x.help(q, e), m.help(q, e));
            case 22: return same(run, calls, "both(" + q + ")", x.both(q), m.both(q));
            case 23: { int k = near(draw(2) == 0 ? 9 : 4); return same(run, calls, "seen(" + q + ", " + k + ")", x.seen(q, k), m.seen(q, k)); }
            case 24: return draw(3) != 0 || same(run, calls, "forget()", x.forget(), m.forget());
            case 25: return same(run, calls, "oars(" + e + ")", x.oars(e), m.oars(e));
            case 26:
            case 27: return same(run, calls, "odds(" + q + ", " + e + ")", x.odds(q, e), m.odds(q, e));
            case 28: { int set = draw(2) == 0 ? m.leave(draw(2)) : near(1 << n); return same(run, calls, "asked(" + set + ")", x.asked(set), m.asked(set)); }
            case 29: { int z = near(10000), k = 1 + near(60); return same(run, calls, "months(" + z + ", " + k + ", " + e + ")", x.months(z, k, e), m.months(z, k, e)); }
            case 30: return same(run, calls, "keep()", x.keep(), m.keep());
            case 31: return same(run, calls, "back()", x.back(), m.back());
            case 32: { int what = near(12); return same(run, calls, "count(" + what + ")", x.count(what), m.count(what)); }
            default: return same(run, calls, "islander(" + i + ", " + e + ")", x.islander(i, e), m.islander(i, e));
        }
    }

    /** Now and then all that can be: only then does the last of the eight show. */
    private static boolean undos(int run, List<String> calls, LeavingVote x, Model m) {
        int times = draw(3) == 0 ? 9 : 1;
        for (int k = 0; k < times; k++) {
            if (!same(run, calls, "undo()", x.undo(), m.undo())) {
                return false;
            }
        }
        return true;
    }

    private static final class State implements Cloneable {
        int n, boats, beds = 4, cowsToMilk, tenths = 5, sick = 3;
        int[] kind = new int[8], leaning = new int[8], minds = new int[8], cows = new int[8], seats = new int[5];
        boolean[] held = new boolean[5];
        boolean storm, ice;

        State copy() {
            try {
                State s = (State) clone();
                s.leaning = leaning.clone();
                s.minds = minds.clone();
                s.held = held.clone();
                return s;
            } catch (CloneNotSupportedException e) {
                throw new IllegalStateException(e);
            }
        }

        boolean against(int i, int q) {
            return (leaning[i] >> q & 1) == 1;
        }

        /** Where does the chain of COUSINS from this one lead? The walk is written down. */
        boolean wants(int i, int q, int unwilling) {
            boolean own = against(i, q) && (unwilling >> i & 1) == 0;
            if (ice) {
                return own;
            }
            if (storm || kind[i] == 3) {
                return false;
            }
            if (kind[i] != 2) {
                return own;
            }
            boolean round = false;
            boolean[] met = new boolean[8];
            for (int at = minds[i]; kind[at] == 2 && !met[at]; at = minds[at]) {
                met[at] = true;
                round |= at == i;
            }
            return round ? own : wants(minds[i], q, unwilling);
        }

        int wanting(int q, int unwilling) {
            int set = 0;
            for (int i = 0; i < n; i++) {
                set |= wants(i, q, unwilling) ? 1 << i : 0;
            }
            return set;
        }

        /** BOAT of each one who LEAVES, 9 by ICE, -1 of those who stay. */
        int[] seated(int wanting) {
            int[] by = new int[8];
            Arrays.fill(by, -1);
            int[] free = seats.clone();
            int bedsLeft = beds;
            for (int i = 0; i < n; i++) {
                if ((wanting >> i & 1) == 0) {
                    continue;
                }
                int boat = ice ? 9 : -1;
                for (int b = 0; b < boats && boat < 0; b++) {
                    if (!held[b] && free[b] > 0) {
                        boat = b;
                        free[b]--;
                    }
                }
                if (boat >= 0 && bedsLeft > 0) {
                    by[i] = boat;
                    bedsLeft--;
                }
            }
            return by;
        }

        int leave(int q, int unwilling) {
            int[] by = seated(wanting(q, unwilling));
            int set = 0;
            for (int i = 0; i < n; i++) {
                set |= by[i] >= 0 ? 1 << i : 0;
            }
            return set;
        }

        boolean falls(int leavers) {
            return 10 * Integer.bitCount(leavers) >= tenths * n;
        }

        boolean fallsOn(int q) {
            return falls(leave(q, 0));
        }

        int cowsWithout(int leavers) {
            int sum = 0;
            for (int i = 0; i < n; i++) {
                sum += (leavers >> i & 1) == 0 ? cows[i] : 0;
            }
            return sum;
        }

        State changed(int set, int q) {
            State s = copy();
            for (int i = 0; i < n; i++) {
                s.leaning[i] ^= (set >> i & 1) << q;
            }
            return s;
        }

        State heldAs(int set) {
            State s = copy();
            for (int b = 0; b < boats; b++) {
                s.held[b] = (set >> b & 1) == 1;
            }
            return s;
        }
    }

    private static final class Model {
        private static final Pattern ITEM = Pattern.compile(
            "i0?[0-3],0?[0-3],0?[0-7],0?\\d;|b0?[1-8];|d0?\\d;|m(0?\\d|[123]\\d|40);|h0?[1-9];|s(0?\\d|10);");

        final StringBuilder text = new StringBuilder();
        State now = tell("i0,1,0,2;i0,3,0,1;i1,1,0,0;i2,0,1,3;i2,2,5,1;i2,0,4,0;i3,3,0,4;i0,0,0,2;b2;b3;d4;m6;h5;s3;");
        final Deque<State> past = new ArrayDeque<>();
        final Deque<State> kept = new ArrayDeque<>();
        final List<int[]> seen = new ArrayList<>();

        boolean badQ(int q) {
            return q < 0 || q > 1;
        }

        boolean badI(int i) {
            return i < 0 || i >= now.n;
        }

        boolean badB(int b) {
            return b < 0 || b >= now.boats;
        }

        int write(int c) {
            if (c < 32 || c > 126) {
                return BAD;
            }
            if (text.length() == 200) {
                return FULL;
            }
            text.append((char) c);
            return text.length();
        }

        int wipe() {
            int was = text.length();
            text.setLength(0);
            return was;
        }

        int fault() {
            int place = 0;
            int islanders = 0;
            int boats = 0;
            Matcher matcher = ITEM.matcher(text);
            while (place < text.length()) {
                matcher.region(place, text.length());
                char c = text.charAt(place);
                islanders += c == 'i' ? 1 : 0;
                boats += c == 'b' ? 1 : 0;
                if (!matcher.lookingAt() || islanders > 8 || boats > 5) {
                    return place;
                }
                place = matcher.end();
            }
            return NONE;
        }

        static State tell(String text) {
            State s = new State();
            for (String item : text.split(";")) {
                String[] parts = item.substring(1).split(",");
                int first = Integer.parseInt(parts[0]);
                switch (item.charAt(0)) {
                    case 'i':
                        s.kind[s.n] = first;
                        s.leaning[s.n] = Integer.parseInt(parts[1]);
                        s.minds[s.n] = Integer.parseInt(parts[2]);
                        s.cows[s.n] = Integer.parseInt(parts[3]);
                        s.n++;
                        break;
                    case 'b': s.seats[s.boats++] = first; break;
                    case 'd': s.beds = first; break;
                    case 'm': s.cowsToMilk = first; break;
                    case 'h': s.tenths = first; break;
                    default: s.sick = first;
                }
            }
            return s;
        }

        int lay() {
            if (fault() != NONE || text.indexOf("i") < 0) {
                return NO;
            }
            State s = tell(text.toString());
            for (int i = 0; i < s.n; i++) {
                if (s.minds[i] >= s.n) {
                    return NO;
                }
            }
            now = s;
            past.clear();
            kept.clear();
            seen.clear();
            return s.n;
        }

        int islander(int i, int what) {
            if (badI(i) || what < 0 || what > 3) {
                return BAD;
            }
            return new int[][] {now.kind, now.leaning, now.minds, now.cows}[what][i];
        }

        int boat(int b, int what) {
            if (badB(b) || badQ(what)) {
                return BAD;
            }
            return what == 0 ? now.seats[b] : now.held[b] ? 1 : 0;
        }

        int wants(int q) {
            return badQ(q) ? BAD : now.wanting(q, 0);
        }

        int leave(int q) {
            return badQ(q) ? BAD : now.leave(q, 0);
        }

        int by(int q, int i) {
            if (badQ(q) || badI(i)) {
                return BAD;
            }
            int boat = now.seated(now.wanting(q, 0))[i];
            return boat < 0 || boat == 9 ? NONE : boat;
        }

        int falls(int q) {
            return badQ(q) ? BAD : now.fallsOn(q) ? 1 : 0;
        }

        int milked(int q, int what) {
            if (badQ(q) || badQ(what)) {
                return BAD;
            }
            int cows = now.cowsWithout(leave(q));
            return what == 0 ? cows : cows >= now.cowsToMilk ? 1 : 0;
        }

        void changing() {
            past.push(now.copy());
            if (past.size() > 8) {
                past.removeLast();
            }
        }

        int lean(int i, int l) {
            if (badI(i) || l < 0 || l > 3) {
                return BAD;
            }
            changing();
            int was = now.leaning[i];
            now.leaning[i] = l;
            return was;
        }

        int mind(int i, int j) {
            if (badI(i) || badI(j)) {
                return BAD;
            }
            changing();
            int was = now.minds[i];
            now.minds[i] = j;
            return was;
        }

        int hold(int b) {
            if (badB(b)) {
                return BAD;
            }
            changing();
            now.held[b] = !now.held[b];
            return now.held[b] ? 1 : 0;
        }

        int weather(int what) {
            if (badQ(what)) {
                return BAD;
            }
            changing();
            if (what == 0) {
                now.storm = !now.storm;
                return now.storm ? 1 : 0;
            }
            now.ice = !now.ice;
            return now.ice ? 1 : 0;
        }

        int undo() {
            if (past.isEmpty()) {
                return NO;
            }
            now = past.pop();
            return past.size();
        }

        int decides(int q) {
            if (badQ(q)) {
                return BAD;
            }
            int set = 0;
            for (int i = 0; i < now.n; i++) {
                set |= now.changed(1 << i, q).fallsOn(q) != now.fallsOn(q) ? 1 << i : 0;
            }
            return set;
        }

        int win(int q) {
            if (badQ(q)) {
                return BAD;
            }
            for (int size = 0; size <= now.n; size++) {
                for (int set = 0; set < 1 << now.n; set++) {
                    if (Integer.bitCount(set) == size && now.changed(set, q).fallsOn(q) != now.fallsOn(q)) {
                        return set;
                    }
                }
            }
            return NONE;
        }

        /** A set is one that would leave, if it does when just these are willing PLAIN ones. */
        int fill() {
            for (int size = 0; size <= now.n; size++) {
                for (int set = 0; set < 1 << now.n; set++) {
                    if (Integer.bitCount(set) != size || now.cowsWithout(set) < now.cowsToMilk || !now.falls(set)) {
                        continue;
                    }
                    int[] by = now.seated(set);
                    boolean all = true;
                    for (int i = 0; i < now.n; i++) {
                        all &= (set >> i & 1) == 0 || by[i] >= 0 && (now.ice || now.kind[i] != 3);
                    }
                    if (all) {
                        return set;
                    }
                }
            }
            return NONE;
        }

        int beds(int q) {
            if (badQ(q)) {
                return BAD;
            }
            State s = now.copy();
            for (s.beds = 0; s.beds < 10; s.beds++) {
                if (s.fallsOn(q)) {
                    return s.beds;
                }
            }
            return NONE;
        }

        int help(int q, int what) {
            if (badQ(q) || badQ(what)) {
                return BAD;
            }
            int best = NONE;
            int most = NONE;
            for (int b = now.boats - 1; b >= 0; b--) {
                if (now.held[b]) {
                    State s = now.copy();
                    s.held[b] = false;
                    int number = Integer.bitCount(s.leave(q, 0));
                    if (number >= most) {
                        best = b;
                        most = number;
                    }
                }
            }
            return what == 0 ? best : most;
        }

        int both(int q) {
            if (badQ(q)) {
                return BAD;
            }
            int first = now.wanting(0, 0);
            State even = now.copy();
            even.held[1] = true;
            even.held[3] = true;
            State odd = now.copy();
            odd.held[0] = true;
            odd.held[2] = true;
            odd.held[4] = true;
            int leaving = number(even.seated(first));
            odd.beds -= leaving;
            return q == 0 ? leaving : number(odd.seated(now.wanting(1, 0) & ~first));
        }

        private static int number(int[] by) {
            int number = 0;
            for (int boat : by) {
                number += boat >= 0 ? 1 : 0;
            }
            return number;
        }

        int seen(int q, int k) {
            if (badQ(q) || k < 0 || k > 8) {
                return BAD;
            }
            if (seen.size() == 8) {
                return FULL;
            }
            seen.add(new int[] {q, k});
            return seen.size();
        }

        int forget() {
            int were = seen.size();
            seen.clear();
            return were;
        }

        int oars(int what) {
            if (badQ(what)) {
                return BAD;
            }
            List<Integer> sets = new ArrayList<>();
            for (int set = 0; set < 1 << now.boats; set++) {
                State s = now.heldAs(set);
                boolean so = true;
                for (int[] one : seen) {
                    so &= Integer.bitCount(s.leave(one[0], 0)) == one[1];
                }
                if (so) {
                    sets.add(set);
                }
            }
            return what == 0 ? sets.size() : sets.isEmpty() ? NONE : sets.get(0);
        }

        int odds(int q, int part) {
            if (badQ(q) || badQ(part)) {
                return BAD;
            }
            BigInteger above = cases(q, 0, 0);
            BigInteger below = BigInteger.TEN.pow(8);
            BigInteger common = above.gcd(below);
            return (part == 0 ? above : below).divide(common).intValueExact();
        }

        /** Of ten to the eighth cases, those in which it FALLS; who is not asked counts ten times all the same. */
        private BigInteger cases(int q, int i, int unwilling) {
            if (i == 8) {
                return now.falls(now.leave(q, unwilling)) ? BigInteger.ONE : BigInteger.ZERO;
            }
            if (i >= now.n || now.kind[i] != 1 || !now.wants(i, q, 0)) {
                return cases(q, i + 1, unwilling).multiply(BigInteger.TEN);
            }
            return cases(q, i + 1, unwilling | 1 << i).multiply(BigInteger.valueOf(now.sick))
                .add(cases(q, i + 1, unwilling).multiply(BigInteger.valueOf(10 - now.sick)));
        }

        int asked(int set) {
            if (set < 0 || set >= 1 << now.n) {
                return BAD;
            }
            return (leave(0) == set ? 1 : 0) + (leave(1) == set ? 2 : 0);
        }

        int months(int z, int n, int what) {
            if (z < 0 || z > 9999 || n < 1 || n > 60 || badQ(what)) {
                return BAD;
            }
            int number = 0;
            for (int month = 0; month < n; month++) {
                BigInteger x = BigInteger.valueOf(7919L * z + 6151L * month + 1);
                int draw = x.multiply(x).mod(BigInteger.valueOf(65521)).intValueExact() / 2;
                State s = now.copy();
                s.storm = draw % 4 == 0;
                s.ice = draw % 7 == 0;
                int leavers = s.leave((draw / 8) % 2, 0);
                number += (what == 0 ? s.falls(leavers) : s.cowsWithout(leavers) >= s.cowsToMilk) ? 1 : 0;
            }
            return number;
        }

        int keep() {
            if (kept.size() == 2) {
                return FULL;
            }
            kept.push(now.copy());
            return kept.size();
        }

        int back() {
            if (kept.isEmpty()) {
                return NO;
            }
            now = kept.pop();
            past.clear();
            return kept.size();
        }

        int count(int what) {
            int held = 0;
            for (int b = 0; b < now.boats; b++) {
                held += now.held[b] ? 1 : 0;
            }
            int[] counts = {
                now.n, now.boats, held, now.storm ? 1 : 0, now.ice ? 1 : 0, now.beds, now.cowsToMilk, now.tenths,
                seen.size(), past.size(), kept.size(), text.length(),
            };
            return what < 0 || what > 11 ? BAD : counts[what];
        }
    }
}
