/**
 * An island votes by leaving: whoever is against a law takes the last boat
 * and spends the night ashore. The words in capitals in the comments are those
 * of the document.
 */
public final class LeavingVote {
    public static final int BAD = -1, NO = -2, FULL = -3, NONE = -4;

    private static final String FIRST_TEXT =
        "i0,1,0,2;i0,3,0,1;i1,1,0,0;i2,0,1,3;i2,2,5,1;i2,0,4,0;i3,3,0,4;i0,0,0,2;b2;b3;d4;m6;h5;s3;";

    private static final int MOST_LETTERS = 200;
    private static final int MOST_ISLANDERS = 8;
    private static final int MOST_BOATS = 5;
    private static final int MOST_BEDS = 9;
    private static final int MOST_UNDONE = 8;
    private static final int MOST_KEPT = 2;
    private static final int MOST_SEEN = 8;
    private static final int MOST_MONTHS = 60;
    private static final int MOST_Z = 9999;
    private static final int QUESTIONS = 2;

    private static final int SEASICK = 1, COUSIN = 2, LAME = 3;

    /** BOTH parts the BOATS: 0, 2, 4 for QUESTION 0, and 1, 3 for QUESTION 1. */
    private static final int ALL_BOATS = 31, EVEN_BOATS = 21, ODD_BOATS = 10;

    private final Script script;
    private final Item item;
    private final Island draft;
    private final Island laid;
    private final Night night;
    private final Pile past;
    private final Pile shelf;
    private final Sightings sightings;
    private long standing;

    public LeavingVote() {
        script = new Script();
        item = new Item();
        draft = new Island();
        laid = new Island();
        night = new Night();
        past = new Pile(MOST_UNDONE);
        shelf = new Pile(MOST_KEPT);
        sightings = new Sightings();
        layFirstText();
    }

    // ---- islands

    public int write(int letter) {
        if (letter < 32 || letter > 126) {
            return BAD;
        }
        return script.append(letter) ? script.length() : FULL;
    }

    public int wipe() {
        int was = script.length();
        script.clear();
        return was;
    }

    public int fault() {
        return draft.read(script, item);
    }

    public int lay() {
        if (draft.read(script, item) != NONE || !draft.canBeLaid()) {
            return NO;
        }
        laid.copyFrom(draft);
        standing = laid.firstStanding();
        past.clear();
        shelf.clear();
        sightings.clear();
        return laid.islanders();
    }

    public int islander(int i, int what) {
        if (!isIslander(i)) {
            return BAD;
        }
        switch (what) {
            case 0: return laid.kind(i);
            case 1: return Standing.leaning(standing, i);
            case 2: return Standing.minded(standing, i);
            case 3: return laid.cowsOf(1 << i);
            default: return BAD;
        }
    }

    public int boat(int b, int what) {
        if (!isBoat(b)) {
            return BAD;
        }
        switch (what) {
            case 0: return laid.seatsOf(1 << b);
            case 1: return Standing.held(standing) >>> b & 1;
            default: return BAD;
        }
    }

    // ---- a night

    public int wants(int q) {
        if (!isQuestion(q)) {
            return BAD;
        }
        night.set(laid, standing);
        return night.wanting(Standing.against(standing, q), 0);
    }

    public int leave(int q) {
        return isQuestion(q) ? leavers(standing, q) : BAD;
    }

    public int by(int q, int i) {
        if (!isQuestion(q) || !isIslander(i)) {
            return BAD;
        }
        int leavers = leavers(standing, q);
        if ((leavers >>> i & 1) == 0 || Standing.ice(standing)) {
            return NONE;
        }
        int before = Integer.bitCount(leavers & ((1 << i) - 1));
        return laid.boatOfSeat(before, Standing.held(standing));
    }

    public int falls(int q) {
        return isQuestion(q) ? oneIf(laid.lawFalls(leavers(standing, q))) : BAD;
    }

    public int milked(int q, int what) {
        if (!isQuestion(q) || !isEither(what)) {
            return BAD;
        }
        int leavers = leavers(standing, q);
        return what == 0 ? laid.cowsWithout(leavers) : oneIf(laid.cowsMilked(leavers));
    }

    // ---- changes

    public int lean(int i, int l) {
        if (!isIslander(i) || l < 0 || l > 3) {
            return BAD;
        }
        int was = Standing.leaning(standing, i);
        change(Standing.withLeaning(standing, i, l));
        return was;
    }

    public int mind(int i, int j) {
        if (!isIslander(i) || !isIslander(j)) {
            return BAD;
        }
        int was = Standing.minded(standing, i);
        change(Standing.withMinded(standing, i, j));
        return was;
    }

    public int hold(int b) {
        if (!isBoat(b)) {
            return BAD;
        }
        int held = Standing.held(standing) ^ 1 << b;
        change(Standing.withHeld(standing, held));
        return held >>> b & 1;
    }

    public int weather(int what) {
        if (!isEither(what)) {
            return BAD;
        }
        boolean storm = Standing.storm(standing) != (what == 0);
        boolean ice = Standing.ice(standing) != (what == 1);
        change(Standing.withWeather(standing, storm, ice));
        return oneIf(what == 0 ? storm : ice);
    }

    public int undo() {
        if (past.height() == 0) {
            return NO;
        }
        standing = past.take(standing);
        return past.height();
    }

    // ---- what would be

    public int decides(int q) {
        if (!isQuestion(q)) {
            return BAD;
        }
        boolean now = laid.lawFalls(leavers(standing, q));
        int against = Standing.against(standing, q);
        int deciding = 0;
        for (int i = 0; i < laid.islanders(); i++) {
            if (laid.lawFalls(night.leaving(against ^ 1 << i, 0)) != now) {
                deciding |= 1 << i;
            }
        }
        return deciding;
    }

    public int win(int q) {
        if (!isQuestion(q)) {
            return BAD;
        }
        boolean now = laid.lawFalls(leavers(standing, q));
        int against = Standing.against(standing, q);
        int best = NONE;
        int fewest = MOST_ISLANDERS + 1;
        for (int set = 1; set <= laid.everybody(); set++) {
            boolean fewer = Integer.bitCount(set) < fewest;
            if (fewer && laid.lawFalls(night.leaving(against ^ set, 0)) != now) {
                best = set;
                fewest = Integer.bitCount(set);
            }
        }
        return best;
    }

    public int fill() {
        int room = Math.min(seatsIn(ALL_BOATS), laid.bedsAshore());
        int barred = Standing.ice(standing) ? 0 : laid.ofKind(LAME);
        int best = NONE;
        int fewest = room + 1;
        for (int set = 0; set <= laid.everybody(); set++) {
            boolean fewer = Integer.bitCount(set) < fewest;
            if (fewer && (set & barred) == 0 && laid.lawFalls(set) && laid.cowsMilked(set)) {
                best = set;
                fewest = Integer.bitCount(set);
            }
        }
        return best;
    }

    public int beds(int q) {
        if (!isQuestion(q)) {
            return BAD;
        }
        night.set(laid, standing);
        int wanting = night.wanting(Standing.against(standing, q), 0);
        for (int beds = 0; beds <= MOST_BEDS; beds++) {
            if (laid.lawFalls(night.leavingOf(wanting, beds))) {
                return beds;
            }
        }
        return NONE;
    }

    public int help(int q, int what) {
        if (!isQuestion(q) || !isEither(what)) {
            return BAD;
        }
        int held = Standing.held(standing);
        int best = NONE;
        int most = NONE;
        for (int b = 0; b < laid.boats(); b++) {
            if ((held >>> b & 1) == 0) {
                continue;
            }
            int number = Integer.bitCount(leavers(Standing.withHeld(standing, held ^ 1 << b), q));
            if (number > most) {
                best = b;
                most = number;
            }
        }
        return what == 0 ? best : most;
    }

    public int both(int q) {
        if (!isQuestion(q)) {
            return BAD;
        }
        night.set(laid, standing);
        int first = night.wanting(Standing.against(standing, 0), 0);
        int second = night.wanting(Standing.against(standing, 1), 0) & ~first;
        int beds = laid.bedsAshore();
        int leaving = Math.min(Math.min(Integer.bitCount(first), seatsIn(EVEN_BOATS)), beds);
        if (q == 0) {
            return leaving;
        }
        return Math.min(Math.min(Integer.bitCount(second), seatsIn(ODD_BOATS)), beds - leaving);
    }

    // ---- what was seen

    public int seen(int q, int k) {
        if (!isQuestion(q) || k < 0 || k > MOST_ISLANDERS) {
            return BAD;
        }
        return sightings.add(q, k) ? sightings.size() : FULL;
    }

    public int forget() {
        int were = sightings.size();
        sightings.clear();
        return were;
    }

    public int oars(int what) {
        if (!isEither(what)) {
            return BAD;
        }
        int number = 0;
        int first = NONE;
        for (int held = 0; held < 1 << laid.boats(); held++) {
            if (!agrees(Standing.withHeld(standing, held))) {
                continue;
            }
            if (number == 0) {
                first = held;
            }
            number++;
        }
        return what == 0 ? number : first;
    }

    public int odds(int q, int part) {
        if (!isQuestion(q) || !isEither(part)) {
            return BAD;
        }
        night.set(laid, standing);
        int against = Standing.against(standing, q);
        int queasy = night.wanting(against, 0) & laid.ofKind(SEASICK);
        int above = 0;
        for (int staying = 0; staying <= queasy; staying++) {
            boolean possible = (staying & ~queasy) == 0;
            if (possible && laid.lawFalls(night.leaving(against, staying))) {
                above += weight(Integer.bitCount(staying), Integer.bitCount(queasy & ~staying));
            }
        }
        int below = power(10, Integer.bitCount(queasy));
        int common = commonDivisor(above, below);
        if (common <= 0) {
            return NONE;
        }
        return part == 0 ? above / common : below / common;
    }

    public int asked(int set) {
        if (set < 0 || set > laid.everybody()) {
            return BAD;
        }
        int questions = 0;
        for (int q = 0; q < QUESTIONS; q++) {
            if (leavers(standing, q) == set) {
                questions |= 1 << q;
            }
        }
        return questions;
    }

    public int months(int z, int n, int what) {
        if (z < 0 || z > MOST_Z || n < 1 || n > MOST_MONTHS || !isEither(what)) {
            return BAD;
        }
        int number = 0;
        for (int month = 0; month < n; month++) {
            int draw = draw(z, month);
            long then = Standing.withWeather(standing, draw % 4 == 0, draw % 7 == 0);
            int leavers = leavers(then, draw / 8 % 2);
            if (what == 0 ? laid.lawFalls(leavers) : laid.cowsMilked(leavers)) {
                number++;
            }
        }
        return number;
    }

    // ---- kept

    public int keep() {
        if (shelf.height() >= MOST_KEPT) {
            return FULL;
        }
        shelf.put(standing);
        return shelf.height();
    }

    public int back() {
        if (shelf.height() == 0) {
            return NO;
        }
        standing = shelf.take(standing);
        past.clear();
        return shelf.height();
    }

    public int count(int what) {
        switch (what) {
            case 0: return laid.islanders();
            case 1: return laid.boats();
            case 2: return Integer.bitCount(Standing.held(standing));
            case 3: return oneIf(Standing.storm(standing));
            case 4: return oneIf(Standing.ice(standing));
            case 5: return laid.bedsAshore();
            case 6: return laid.cowsToMilk();
            case 7: return laid.tenths();
            case 8: return sightings.size();
            case 9: return past.height();
            case 10: return shelf.height();
            case 11: return script.length();
            default: return BAD;
        }
    }

    // ---- helpers

    /** THE TEXT itself is empty at first: only what is LAID is told. */
    private void layFirstText() {
        for (int place = 0; place < FIRST_TEXT.length(); place++) {
            script.append(FIRST_TEXT.charAt(place));
        }
        draft.read(script, item);
        laid.copyFrom(draft);
        standing = laid.firstStanding();
        script.clear();
    }

    private boolean isIslander(int i) {
        return i >= 0 && i < laid.islanders();
    }

    private boolean isBoat(int b) {
        return b >= 0 && b < laid.boats();
    }

    private static boolean isQuestion(int q) {
        return q >= 0 && q < QUESTIONS;
    }

    private static boolean isEither(int what) {
        return what == 0 || what == 1;
    }

    private static int oneIf(boolean so) {
        return so ? 1 : 0;
    }

    private void change(long next) {
        past.put(standing);
        standing = next;
    }

    /** Leaves the night set as it stands then, for callers that ask further what-ifs of it. */
    private int leavers(long then, int q) {
        night.set(laid, then);
        return night.leaving(Standing.against(then, q), 0);
    }

    /** By ICE nobody needs a seat, so there are as many as there can be ISLANDERS. */
    private int seatsIn(int boats) {
        return Standing.ice(standing)
            ? MOST_ISLANDERS
            : laid.seatsOf(boats & ~Standing.held(standing));
    }

    private boolean agrees(long then) {
        night.set(laid, then);
        for (int s = 0; s < sightings.size(); s++) {
            int leavers = night.leaving(Standing.against(then, sightings.question(s)), 0);
            if (Integer.bitCount(leavers) != sightings.number(s)) {
                return false;
            }
        }
        return true;
    }

    /** How many of the 10 to the power (staying + going) cases are this one. */
    private int weight(int staying, int going) {
        return power(laid.seasickTenths(), staying) * power(10 - laid.seasickTenths(), going);
    }

    private static int power(int base, int exponent) {
        int product = 1;
        for (int k = 0; k < exponent && k < MOST_ISLANDERS; k++) {
            product *= base;
        }
        return product;
    }

    private static int commonDivisor(int a, int b) {
        int larger = b;
        int smaller = a;
        for (int step = 0; step < 100 && smaller != 0; step++) {
            int rest = larger % smaller;
            larger = smaller;
            smaller = rest;
        }
        return larger;
    }

    private static int draw(int z, int month) {
        long x = 7919L * z + 6151L * month + 1;
        return (int) (x * x % 65521) / 2;
    }

    /** The lowest of a set, and no more than so many. */
    private static int lowest(int set, int most) {
        int chosen = 0;
        int number = 0;
        for (int i = 0; i < MOST_ISLANDERS; i++) {
            if (number < most && (set >>> i & 1) == 1) {
                chosen |= 1 << i;
                number++;
            }
        }
        return chosen;
    }

    /** THE TEXT. */
    private static final class Script {
        private final char[] letters;
        private int length;

        Script() {
            letters = new char[MOST_LETTERS];
        }

        boolean append(int letter) {
            if (length < 0 || length >= letters.length) {
                return false;
            }
            letters[length] = (char) letter;
            length++;
            return true;
        }

        void clear() {
            length = 0;
        }

        int length() {
            return length;
        }

        /** Behind the end 0, which is no letter of any ITEM. */
        int letterAt(int place) {
            return place >= 0 && place < length && place < letters.length ? letters[place] : 0;
        }

        /** How many figures stand there, counting no further than two. */
        int figuresAt(int place) {
            if (!isFigure(letterAt(place))) {
                return 0;
            }
            return isFigure(letterAt(place + 1)) ? 2 : 1;
        }

        int numberAt(int place, int figures) {
            int number = letterAt(place) - '0';
            return figures == 2 ? 10 * number + letterAt(place + 1) - '0' : number;
        }

        private static boolean isFigure(int letter) {
            return letter >= '0' && letter <= '9';
        }
    }

    /** One ITEM of THE TEXT; the same object reads them all. */
    private static final class Item {
        private final int[] numbers;
        private int letter;
        private int behind;

        Item() {
            numbers = new int[4];
        }

        /** False if what begins there is no ITEM, or one of its numbers is out of its bounds. */
        boolean readFrom(Script script, int start) {
            letter = script.letterAt(start);
            int howMany = numbersOf(letter);
            int place = start + 1;
            for (int k = 0; k < howMany && k < numbers.length; k++) {
                int figures = script.figuresAt(place);
                int number = script.numberAt(place, figures);
                if (figures == 0 || number < least(letter) || number > most(letter, k)) {
                    return false;
                }
                place += figures;
                if (script.letterAt(place) != (k + 1 < howMany ? ',' : ';')) {
                    return false;
                }
                place++;
                numbers[k] = number;
            }
            behind = place;
            return howMany > 0;
        }

        int letter() {
            return letter;
        }

        int number(int k) {
            return k >= 0 && k < numbers.length ? numbers[k] : 0;
        }

        /** The place of the letter behind the ITEM. */
        int behind() {
            return behind;
        }

        private static int numbersOf(int letter) {
            switch (letter) {
                case 'i': return 4;
                case 'b':
                case 'd':
                case 'm':
                case 'h':
                case 's': return 1;
                default: return 0;
            }
        }

        private static int least(int letter) {
            return letter == 'b' || letter == 'h' ? 1 : 0;
        }

        private static int most(int letter, int k) {
            switch (letter) {
                case 'i': return k < 2 ? 3 : k == 2 ? MOST_ISLANDERS - 1 : 9;
                case 'b': return 8;
                case 'd': return MOST_BEDS;
                case 'm': return 40;
                case 'h': return 9;
                default: return 10;
            }
        }
    }

    /** What a TEXT tells. */
    private static final class Island {
        private final int[] kinds;
        private final int[] cows;
        private final int[] seats;
        private int islanders;
        private int boats;
        private int bedsAshore;
        private int cowsToMilk;
        private int tenths;
        private int seasickTenths;
        private long firstStanding;

        Island() {
            kinds = new int[MOST_ISLANDERS];
            cows = new int[MOST_ISLANDERS];
            seats = new int[MOST_BOATS];
        }

        /** FAULT, or NONE. What is read up to a FAULT is worth nothing. */
        int read(Script script, Item item) {
            empty();
            int place = 0;
            for (int items = 0; items < MOST_LETTERS && place < script.length(); items++) {
                if (!item.readFrom(script, place) || !take(item)) {
                    return place;
                }
                place = item.behind();
            }
            return NONE;
        }

        boolean canBeLaid() {
            for (int i = 0; i < islanders; i++) {
                if (Standing.minded(firstStanding, i) >= islanders) {
                    return false;
                }
            }
            return islanders > 0;
        }

        void copyFrom(Island other) {
            for (int i = 0; i < MOST_ISLANDERS; i++) {
                putIslander(i, other.kind(i), other.cowsOf(1 << i));
            }
            for (int b = 0; b < MOST_BOATS; b++) {
                putBoat(b, other.seatsOf(1 << b));
            }
            islanders = other.islanders;
            boats = other.boats;
            bedsAshore = other.bedsAshore;
            cowsToMilk = other.cowsToMilk;
            tenths = other.tenths;
            seasickTenths = other.seasickTenths;
            firstStanding = other.firstStanding;
        }

        int islanders() {
            return islanders;
        }

        int boats() {
            return boats;
        }

        int bedsAshore() {
            return bedsAshore;
        }

        int cowsToMilk() {
            return cowsToMilk;
        }

        int tenths() {
            return tenths;
        }

        int seasickTenths() {
            return seasickTenths;
        }

        long firstStanding() {
            return firstStanding;
        }

        int everybody() {
            return (1 << islanders) - 1;
        }

        int kind(int i) {
            return i >= 0 && i < kinds.length ? kinds[i] : 0;
        }

        int ofKind(int kind) {
            int set = 0;
            for (int i = 0; i < islanders; i++) {
                if (kind(i) == kind) {
                    set |= 1 << i;
                }
            }
            return set;
        }

        int cowsOf(int set) {
            int sum = 0;
            for (int i = 0; i < cows.length; i++) {
                if ((set >>> i & 1) == 1) {
                    sum += cows[i];
                }
            }
            return sum;
        }

        int cowsWithout(int leavers) {
            return cowsOf(everybody() & ~leavers);
        }

        boolean cowsMilked(int leavers) {
            return cowsWithout(leavers) >= cowsToMilk;
        }

        boolean lawFalls(int leavers) {
            return 10 * Integer.bitCount(leavers) >= tenths * islanders;
        }

        int seatsOf(int set) {
            int sum = 0;
            for (int b = 0; b < seats.length; b++) {
                if ((set >>> b & 1) == 1) {
                    sum += seats[b];
                }
            }
            return sum;
        }

        /** Which BOAT has the seat before which so many are taken. */
        int boatOfSeat(int before, int held) {
            int left = before;
            for (int b = 0; b < boats; b++) {
                int here = seatsOf(1 << b & ~held);
                if (left < here) {
                    return b;
                }
                left -= here;
            }
            return NONE;
        }

        /** Empties the rows, too: the sums over all BOATS and KINDS count on zeros behind the last one. */
        private void empty() {
            for (int i = 0; i < MOST_ISLANDERS; i++) {
                putIslander(i, 0, 0);
            }
            for (int b = 0; b < MOST_BOATS; b++) {
                putBoat(b, 0);
            }
            islanders = 0;
            boats = 0;
            bedsAshore = 4;
            cowsToMilk = 0;
            tenths = 5;
            seasickTenths = 3;
            firstStanding = 0;
        }

        private boolean take(Item item) {
            int number = item.number(0);
            switch (item.letter()) {
                case 'i': return takeIslander(item);
                case 'b': return takeBoat(number);
                case 'd': bedsAshore = number; return true;
                case 'm': cowsToMilk = number; return true;
                case 'h': tenths = number; return true;
                case 's': seasickTenths = number; return true;
                default: return false;
            }
        }

        private boolean takeIslander(Item item) {
            if (islanders >= MOST_ISLANDERS) {
                return false;
            }
            putIslander(islanders, item.number(0), item.number(3));
            firstStanding = Standing.withLeaning(firstStanding, islanders, item.number(1));
            firstStanding = Standing.withMinded(firstStanding, islanders, item.number(2));
            islanders++;
            return true;
        }

        private boolean takeBoat(int number) {
            if (boats >= MOST_BOATS) {
                return false;
            }
            putBoat(boats, number);
            boats++;
            return true;
        }

        private void putIslander(int i, int kind, int milks) {
            if (i >= 0 && i < kinds.length && i < cows.length) {
                kinds[i] = kind;
                cows[i] = milks;
            }
        }

        private void putBoat(int b, int number) {
            if (b >= 0 && b < seats.length) {
                seats[b] = number;
            }
        }
    }

    /**
     * All that can change, in one long, so that what is UNDONE, KEPT or only
     * thought of is a number and no object: bits 0 to 7 are against QUESTION 0,
     * 8 to 15 against QUESTION 1, 16 to 39 whom each one MINDS (three bits for
     * each), 40 to 44 HELD BOATS, 45 STORM, 46 ICE.
     */
    private static final class Standing {
        private static final int MINDS = 16, HELD = 40, STORM = 45, ICE = 46;

        private Standing() {
        }

        /** Who is against a QUESTION, as bits. */
        static int against(long standing, int q) {
            return part(standing, MOST_ISLANDERS * q, 8);
        }

        static int leaning(long standing, int i) {
            return part(standing, i, 1) + 2 * part(standing, MOST_ISLANDERS + i, 1);
        }

        static long withLeaning(long standing, int i, int leaning) {
            long first = with(standing, i, 1, leaning & 1);
            return with(first, MOST_ISLANDERS + i, 1, leaning >>> 1);
        }

        static int minded(long standing, int i) {
            return part(standing, MINDS + 3 * i, 3);
        }

        static long withMinded(long standing, int i, int j) {
            return with(standing, MINDS + 3 * i, 3, j);
        }

        static int held(long standing) {
            return part(standing, HELD, MOST_BOATS);
        }

        static long withHeld(long standing, int held) {
            return with(standing, HELD, MOST_BOATS, held);
        }

        static boolean storm(long standing) {
            return part(standing, STORM, 1) == 1;
        }

        static boolean ice(long standing) {
            return part(standing, ICE, 1) == 1;
        }

        static long withWeather(long standing, boolean storm, boolean ice) {
            return with(with(standing, STORM, 1, oneIf(storm)), ICE, 1, oneIf(ice));
        }

        private static int part(long standing, int place, int bits) {
            return (int) (standing >>> place) & ((1 << bits) - 1);
        }

        private static long with(long standing, int place, int bits, int value) {
            long mask = (1L << bits) - 1;
            return standing & ~(mask << place) | (value & mask) << place;
        }
    }

    /** A night under given circumstances, set anew for each: no call has to make one. */
    private static final class Night {
        private final int[] guides;
        private int never;
        private int seats;
        private int beds;
        private boolean nobody;

        Night() {
            guides = new int[MOST_ISLANDERS];
        }

        void set(Island island, long standing) {
            boolean ice = Standing.ice(standing);
            for (int i = 0; i < guides.length; i++) {
                guides[i] = ice ? i : guideOf(island, standing, i);
            }
            never = ice ? 0 : island.ofKind(LAME);
            seats = ice ? MOST_ISLANDERS : island.seatsOf(ALL_BOATS & ~Standing.held(standing));
            beds = island.bedsAshore();
            nobody = Standing.storm(standing) && !ice;
        }

        /** WANTS TO LEAVE, were these against it, and those sick in no mood for themselves. */
        int wanting(int against, int sick) {
            int willing = nobody ? 0 : against & ~never & ~sick;
            int set = 0;
            for (int i = 0; i < guides.length; i++) {
                set |= (willing >>> guides[i] & 1) << i;
            }
            return set;
        }

        int leaving(int against, int sick) {
            return leavingOf(wanting(against, sick), beds);
        }

        int leavingOf(int wanting, int bedsThere) {
            return lowest(wanting, Math.min(seats, bedsThere));
        }

        /** By whose LEANING one goes in the end: his own, or that of the first in the chain who goes by his. */
        private static int guideOf(Island island, long standing, int i) {
            int at = i;
            for (int step = 0; step < MOST_ISLANDERS; step++) {
                if (island.kind(at) != COUSIN || comesRound(island, standing, at)) {
                    return at;
                }
                at = Standing.minded(standing, at);
            }
            return at;
        }

        private static boolean comesRound(Island island, long standing, int i) {
            int at = i;
            for (int step = 0; step < MOST_ISLANDERS; step++) {
                at = Standing.minded(standing, at);
                if (at == i) {
                    return true;
                }
                if (island.kind(at) != COUSIN) {
                    return false;
                }
            }
            return false;
        }
    }

    /** Earlier standings, the latest on top; where there is no room the oldest is lost. */
    private static final class Pile {
        private final long[] standings;
        private int height;

        Pile(int most) {
            standings = new long[Math.max(most, 0)];
        }

        int height() {
            return height;
        }

        void clear() {
            height = 0;
        }

        void put(long standing) {
            if (height >= standings.length) {
                dropOldest();
            }
            if (height >= 0 && height < standings.length) {
                standings[height] = standing;
                height++;
            }
        }

        long take(long otherwise) {
            int top = height - 1;
            if (top < 0 || top >= standings.length) {
                return otherwise;
            }
            height = top;
            return standings[top];
        }

        private void dropOldest() {
            for (int k = 1; k < standings.length; k++) {
                standings[k - 1] = standings[k];
            }
            height = Math.max(standings.length - 1, 0);
        }
    }

    /** What was SEEN. */
    private static final class Sightings {
        private final int[] questions;
        private final int[] numbers;
        private int size;

        Sightings() {
            questions = new int[MOST_SEEN];
            numbers = new int[MOST_SEEN];
        }

        boolean add(int question, int number) {
            if (size < 0 || size >= questions.length || size >= numbers.length) {
                return false;
            }
            questions[size] = question;
            numbers[size] = number;
            size++;
            return true;
        }

        void clear() {
            size = 0;
        }

        int size() {
            return size;
        }

        int question(int s) {
            return s >= 0 && s < questions.length ? questions[s] : 0;
        }

        int number(int s) {
            return s >= 0 && s < numbers.length ? numbers[s] : 0;
        }
    }
}
