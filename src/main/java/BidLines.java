import java.util.NoSuchElementException;

/** A sale in which bids are heirlooms: houses, a table of parts, and laws, told as a text. */
public final class BidLines {
    public static final int NONE = -1;

    private static final int NEVER = -2;
    private static final int REFUSED = -2;
    private static final long ERROR = Long.MIN_VALUE;

    private static final int TAPE_SIZE = 700;
    private static final int MOST_HOUSES = 6;
    private static final int MOST_PARTS = 6;
    private static final int MOST_KNOTS = 64;
    private static final int MOST_OPEN = 8;
    private static final int MOST_SEEN = 24;
    private static final int MOST_UNDONE = 20;
    private static final int MOST_BOUND = 9999;
    private static final int MOST_HEIRS = 9;
    private static final int MOST_AGE = 99;
    private static final int HEIR_AGE = 20;
    private static final int LAST_YEAR = 9000;
    private static final int FALL_YEARS = 999;
    private static final int PLAN_YEARS = 120;
    private static final int MOST_MORE = 300;
    // each raise is one at least, and no BOUND lets a BID go so far
    private static final int MOST_RAISES = 20000;

    private static final int LAW_DEATH = 0;
    private static final int LAW_WILL = 1;
    private static final int LAW_RAISE = 2;
    private static final int LAWS = 3;

    private static final int FAULT_TOKEN = 1;
    private static final int FAULT_TOO_MUCH = 2;
    private static final int FAULT_TOLD = 3;

    // the words of the language by their letters, as named() has them; their order is that of the kinds HOUSE to YEAR
    private static final int[] WORDS = {
        8 << 25 | 15 << 20 | 21 << 15 | 19 << 10 | 5 << 5, // house
        16 << 25 | 1 << 20 | 18 << 15 | 20 << 10, // part
        3 << 25 | 1 << 20 | 12 << 15 | 12 << 10 | 19 << 5, // calls
        15 << 25 | 16 << 20 | 5 << 15 | 14 << 10, // open
        19 << 25 | 5 << 20 | 5 << 15 | 4 << 10, // seed
        12 << 25 | 1 << 20 | 23 << 15, // law
        4 << 25 | 5 << 20 | 1 << 15 | 20 << 10 | 8 << 5, // death
        23 << 25 | 9 << 20 | 12 << 15 | 12 << 10, // will
        18 << 25 | 1 << 20 | 9 << 15 | 19 << 10 | 5 << 5, // raise
        15 << 25 | 18 << 20, // or
        1 << 25 | 14 << 20 | 4 << 15, // and
        14 << 25 | 15 << 20 | 20 << 15, // not
        2 << 25 | 9 << 20 | 4 << 15, // bid
        2 << 25 | 15 << 20 | 21 << 15 | 14 << 10 | 4 << 5, // bound
        23 << 25 | 15 << 20 | 18 << 15 | 20 << 10 | 8 << 5, // worth
        1 << 25 | 7 << 20 | 5 << 15, // age
        8 << 25 | 5 << 20 | 9 << 15 | 18 << 10 | 19 << 5, // heirs
        3 << 25 | 1 << 20 | 12 << 15 | 12 << 10 | 5 << 5 | 4, // called
        25 << 25 | 5 << 20 | 1 << 15 | 18 << 10, // year
    };
    private static final int HOUSE = 0;
    private static final int PART = 1;
    private static final int CALLS = 2;
    private static final int OPEN = 3;
    private static final int SEED = 4;
    private static final int LAW = 5;
    private static final int DEATH = 6;
    private static final int RAISE = 8;
    private static final int OR = 9;
    private static final int AND = 10;
    private static final int NOT = 11;
    private static final int BID = 12;
    private static final int BOUND = 13;
    private static final int WORTH = 14;
    private static final int AGE = 15;
    private static final int HEIRS = 16;
    private static final int CALLED = 17;
    private static final int YEAR = 18;
    private static final int NAME = 19;
    private static final int NUMBER = 20;
    private static final int END = 21;
    private static final int NO_TOKEN = 22;
    private static final int SEMICOLON = 23;
    private static final int OPENING = 24;
    private static final int CLOSING = 25;
    private static final int LESS = 26;
    private static final int AT_MOST = 27;
    private static final int EQUAL = 28;
    private static final int UNEQUAL = 29;
    private static final int AT_LEAST = 30;
    private static final int GREATER = 31;
    private static final int PLUS = 32;
    private static final int MINUS = 33;
    private static final int TIMES = 34;
    private static final int DIVIDED = 35;

    private final byte[] tape = new byte[TAPE_SIZE];
    private int tapeLength = 0;
    private Text text = new Text();
    private Text spare = new Text();
    private final Reader reader = new Reader(tape, spare);
    private int latestFault = 0;
    private int faultPlace = NONE;
    private final Sale now = new Sale();
    private final Sale trial = new Sale();
    private final Sale before = new Sale();
    private final Sale image = new Sale();
    private boolean kept = false;
    private final Undoing undoing = new Undoing();
    private final Seen seen = new Seen();
    private final Course course = new Course(text);

    public BidLines() {
    }

    // ---- the tape and the text

    public int feed(int a, int b, int c, int d, int e) {
        if (tapeLength + 20 > TAPE_SIZE) {
            return NONE;
        }
        putFourBytes(a);
        putFourBytes(b);
        putFourBytes(c);
        putFourBytes(d);
        putFourBytes(e);
        return tapeLength;
    }

    private void putFourBytes(int number) {
        for (int shift = 24; shift >= 0; shift -= 8) {
            if (tapeLength < TAPE_SIZE) {
                tape[tapeLength] = (byte) (number >> shift);
                tapeLength++;
            }
        }
    }

    public int text(int n) {
        if (n < 0 || n > tapeLength) {
            return REFUSED;
        }
        tapeLength = 0;
        boolean good = reader.readText(spare, n);
        latestFault = good ? 0 : reader.faultKind();
        faultPlace = good ? NONE : reader.faultAt();
        if (!good) {
            return NONE;
        }
        Text older = text;
        text = spare;
        spare = older;
        startAnew();
        return text.lines;
    }

    private void startAnew() {
        now.begin(text);
        kept = false;
        undoing.forget();
        seen.forget();
    }

    public int fault(int what) {
        switch (what) {
            case 0:
                return latestFault;
            case 1:
                return faultPlace;
            default:
                return NONE;
        }
    }

    public int named(int what, int letters) {
        switch (what) {
            case 0:
                return placeOf(letters, text.houseName, text.houses);
            case 1:
                return placeOf(letters, text.partName, text.parts);
            default:
                return NONE;
        }
    }

    private static int placeOf(int letters, int[] names, int count) {
        for (int i = 0; i < count && i < names.length; i++) {
            if (names[i] == letters) {
                return i;
            }
        }
        return NONE;
    }

    // ---- what there is now

    private boolean isHouse(int house) {
        return house >= 0 && house < text.houses && house < MOST_HOUSES;
    }

    private boolean isIn(int house) {
        return isHouse(house) && now.holds(house);
    }

    private boolean areTwoIn(int one, int other) {
        return one != other && isIn(one) && isIn(other);
    }

    private boolean areThreeIn(int one, int two, int three) {
        return areTwoIn(one, two) && areTwoIn(one, three) && areTwoIn(two, three);
    }

    private static boolean isWithin(int number, int least, int most) {
        return number >= least && number <= most;
    }

    public int house(int house, int what) throws IndexOutOfBoundsException, NoSuchElementException {
        if (!isHouse(house)) {
            throw new IndexOutOfBoundsException("no such house");
        }
        switch (what) {
            case 0:
                return now.bound[house];
            case 1:
                return text.worth[house];
            case 2:
                return text.step[house];
            case 3:
                return now.age[house];
            case 4:
                return now.heirs[house];
            case 5:
                return now.holds(house) ? 1 : 0;
            case 6:
                return now.raised[house];
            case 7:
                return now.lastBid[house];
            default:
                throw new NoSuchElementException("no such what");
        }
    }

    public int part(int part, int what) {
        if (part < 0 || part >= text.parts || part >= MOST_PARTS) {
            return NONE;
        }
        switch (what) {
            case 0:
                return text.lasts[part];
            case 1:
                return now.old[part];
            case 2:
                return now.isFirst(part) ? 1 : 0;
            default:
                return NONE;
        }
    }

    public long law(int what, int house) {
        if (!isWithin(what, 0, LAWS - 1) || !isHouse(house)) {
            return ERROR;
        }
        course.asItGoes(text);
        return course.valueOf(what, now, house);
    }

    public int count(int what) {
        switch (what) {
            case 0:
                return text.houses;
            case 1:
                return text.parts;
            case 2:
                return text.laws.knots;
            case 3:
                return now.year;
            case 4:
                return now.bid;
            case 5:
                return now.leader;
            case 6:
                return now.called;
            case 7:
                return now.fallen ? 1 : 0;
            case 8:
                return Integer.bitCount(now.in);
            case 9:
                return now.died;
            case 10:
                return seen.size;
            case 11:
                return seen.howManyKnown();
            case 12:
                return undoing.size;
            default:
                return NONE;
        }
    }

    public int turn() {
        course.asItGoes(text);
        int house = course.whoseTurn(now);
        return house == NONE ? NEVER : house;
    }

    // ---- what is done by call

    public int nod(int house) {
        if (!isHouse(house)) {
            return NONE;
        }
        course.asItGoes(text);
        if (!course.mayNod(now, house)) {
            return REFUSED;
        }
        undoing.note(now, house);
        course.raise(now, house);
        return now.bid;
    }

    public boolean marry(int one, int other) {
        if (!areTwoIn(one, other)) {
            return false;
        }
        undoing.note(now, one);
        now.wed(one, other);
        return true;
    }

    public boolean will(int house, int bound) {
        if (!isIn(house) || !isWithin(bound, 0, MOST_BOUND) || now.bound[house] == bound) {
            return false;
        }
        undoing.note(now, house);
        now.bound[house] = bound;
        return true;
    }

    public int child(int house) {
        if (!isIn(house) || now.heirs[house] >= MOST_HEIRS) {
            return NONE;
        }
        undoing.note(now, house);
        now.heirs[house]++;
        return now.heirs[house];
    }

    public int go(int n) {
        if (!isWithin(n, 0, 99) || now.year + n > LAST_YEAR) {
            return NONE;
        }
        course.byNumbers(text);
        for (int i = 0; i < n; i++) {
            course.passYear(now);
            now.ageParts(text);
        }
        if (n > 0) {
            undoing.forget();
        }
        return now.year;
    }

    public int undo() {
        return undoing.takeBack(now);
    }

    public int keep() {
        image.become(now);
        kept = true;
        return now.year;
    }

    public int back() {
        if (!kept) {
            return NONE;
        }
        now.become(image);
        undoing.forget();
        return now.year;
    }

    // ---- what comes, as it goes

    private void tryAsItGoes() {
        course.asItGoes(text);
        trial.become(now);
    }

    public int ahead(int n, int what) {
        if (!isWithin(n, 0, 99) || !isWithin(what, 0, 3)) {
            return NONE;
        }
        tryAsItGoes();
        course.passYears(trial, n);
        switch (what) {
            case 0:
                return trial.bid;
            case 1:
                return trial.leader == NONE ? NEVER : trial.leader;
            case 2:
                return Integer.bitCount(trial.in);
            default:
                return trial.died - now.died;
        }
    }

    public int falls(int what) {
        if (!isWithin(what, 0, 2)) {
            return NONE;
        }
        tryAsItGoes();
        int years = course.yearsToFall(trial, FALL_YEARS);
        if (years == NEVER || what == 0) {
            return years;
        }
        return what == 1 ? trial.leader : trial.bid;
    }

    public int atMost() {
        tryAsItGoes();
        course.deathless = true;
        return course.yearsToFall(trial, FALL_YEARS);
    }

    public int left(int n) {
        if (!isWithin(n, 0, 99)) {
            return NONE;
        }
        tryAsItGoes();
        course.passYears(trial, n);
        return trial.in;
    }

    public int nextRaise(int what) {
        if (!isWithin(what, 0, 1)) {
            return NONE;
        }
        tryAsItGoes();
        for (int years = 1; years <= 99; years++) {
            int raiser = course.passYear(trial);
            if (raiser != NONE) {
                return what == 0 ? years : raiser;
            }
        }
        return NEVER;
    }

    public int tried(int what, int i, int n) {
        boolean rightHouse = what == 2 ? isHouse(i) : i == 0;
        if (!isWithin(what, 0, 4) || !rightHouse || !isWithin(n, 0, 99)) {
            return NONE;
        }
        tryAsItGoes();
        switch (what) {
            case 0:
                course.deathless = true;
                break;
            case 1:
                course.endless = true;
                break;
            case 2:
                course.hushed = 1 << i;
                break;
            case 3:
                course.smallSteps = true;
                break;
            default:
                trial.setAllBounds(999);
                break;
        }
        course.passYears(trial, n);
        return trial.bid;
    }

    public int chance(int seed, int n, int house) {
        if (seed < 0 || !isWithin(n, 1, 99) || !isHouse(house)) {
            return NONE;
        }
        course.byNumbers(text);
        int number = seed;
        int times = 0;
        for (int i = 0; i < 10; i++) {
            trial.become(now);
            trial.number = number;
            course.passYears(trial, n);
            number = trial.number;
            times += trial.holds(house) ? 1 : 0;
        }
        return times;
    }

    public long lives(int house, int n, int what) {
        if (!isIn(house) || !isWithin(n, 0, 6) || !isWithin(what, 0, 1)) {
            return NONE;
        }
        tryAsItGoes();
        long above = 1;
        long below = 1;
        for (int i = 0; i < n; i++) {
            trial.growOlder(house);
            above *= 100 - course.deathOf(trial, house);
            below *= 100;
        }
        long common = Math.max(1, commonDivisor(above, below));
        return (what == 0 ? above : below) / common;
    }

    private static long commonDivisor(long one, long other) {
        long larger = one;
        long rest = other;
        // Euclid's rests halve every two steps
        for (int i = 0; i < 200 && rest != 0; i++) {
            long next = larger % rest;
            larger = rest;
            rest = next;
        }
        return larger;
    }

    // ---- how the table is to be had

    public int letGo(int house) {
        if (!isIn(house)) {
            return NONE;
        }
        for (int more = 0; more <= MOST_MORE; more++) {
            tryAsItGoes();
            trial.bound[house] += more;
            course.yearsToFall(trial, PLAN_YEARS);
            if (trial.hasFallenTo(house)) {
                return more;
            }
        }
        return NEVER;
    }

    public int when(int house, int n, int what) {
        if (!isIn(house) || !isWithin(n, 0, 40) || !isWithin(what, 0, 1)) {
            return NONE;
        }
        course.asItGoes(text);
        before.become(now);
        int bestYear = NEVER;
        int bestBid = NEVER;
        for (int year = 0; year <= n; year++) {
            trial.become(before);
            if (course.mayNod(trial, house)) {
                course.raise(trial, house);
                course.yearsToFall(trial, PLAN_YEARS - year);
                if (trial.hasFallenTo(house) && (bestYear == NEVER || trial.bid < bestBid)) {
                    bestYear = year;
                    bestBid = trial.bid;
                }
            }
            course.passYear(before);
        }
        return what == 0 ? bestYear : bestBid;
    }

    public int match(int house) {
        if (!isIn(house)) {
            return NONE;
        }
        int best = NEVER;
        for (int other = 0; other < text.houses; other++) {
            boolean lower = best < 0 || now.bound[other] < now.bound[best];
            if (lower && areTwoIn(house, other)) {
                tryAsItGoes();
                trial.wed(house, other);
                course.yearsToFall(trial, PLAN_YEARS);
                if (trial.hasFallenTo(house)) {
                    best = other;
                }
            }
        }
        return best;
    }

    public int hush(int house, int n) {
        if (!isIn(house) || !isWithin(n, 1, 40)) {
            return NONE;
        }
        int others = now.in & ~(1 << house);
        int best = NEVER;
        for (int some = 0; some < 1 << MOST_HOUSES; some++) {
            if ((some & ~others) == 0 && isFewer(some, best)) {
                tryAsItGoes();
                course.hushed = some;
                course.passYears(trial, n);
                if (trial.leader == house) {
                    best = some;
                }
            }
        }
        return best;
    }

    /** Whether these bits are fewer than the best ones so far (a negative number: there are none). */
    private static boolean isFewer(int some, int best) {
        return best < 0 || Integer.bitCount(some) < Integer.bitCount(best);
    }

    public int outbid() {
        int best = NEVER;
        for (int some = 1; some < 1 << MOST_HOUSES; some++) {
            if ((some & ~now.in) == 0 && isFewer(some, best) && outbidsOthers(some)) {
                best = some;
            }
        }
        return best;
    }

    private boolean outbidsOthers(int some) {
        int sum = sumOfBounds(some);
        for (int other = 0; other < text.houses; other++) {
            boolean outside = now.holds(other) && (some >> other & 1) == 0;
            if (outside && now.bound[other] >= sum) {
                return false;
            }
        }
        return sum >= now.bid + leastStep(some);
    }

    private int sumOfBounds(int some) {
        int sum = 0;
        for (int house = 0; house < text.houses; house++) {
            sum += (some >> house & 1) * now.bound[house];
        }
        return sum;
    }

    private int leastStep(int some) {
        int least = Integer.MAX_VALUE;
        for (int house = 0; house < text.houses; house++) {
            if ((some >> house & 1) == 1) {
                least = Math.min(least, text.step[house]);
            }
        }
        return least;
    }

    private int greatestWorth(int some) {
        int greatest = 0;
        for (int house = 0; house < text.houses; house++) {
            if ((some >> house & 1) == 1) {
                greatest = Math.max(greatest, text.worth[house]);
            }
        }
        return greatest;
    }

    /** What some HOUSES (bits, one at least) HAVE of the table, if they marry for it. */
    private int gainOf(int some) {
        if (sumOfBounds(some) < now.bid + leastStep(some)) {
            return 0;
        }
        return Math.max(0, greatestWorth(some) - now.bid);
    }

    public int shares(int one, int other) {
        if (!areTwoIn(one, other)) {
            return NONE;
        }
        int alone = gainOf(1 << one);
        int otherAlone = gainOf(1 << other);
        int together = gainOf(1 << one | 1 << other);
        return alone + (together - alone - otherAlone) / 2;
    }

    public int stays(int one, int two, int three, int x, int y) {
        boolean given = isWithin(x, -9999, 9999) && isWithin(y, -9999, 9999);
        if (!areThreeIn(one, two, three) || !given) {
            return NONE;
        }
        int first = 1 << one;
        int second = 1 << two;
        int third = 1 << three;
        int z = gainOf(first | second | third) - x - y;
        boolean noneAlone = x >= gainOf(first) && y >= gainOf(second) && z >= gainOf(third);
        boolean noTwo = x + y >= gainOf(first | second) && x + z >= gainOf(first | third)
                && y + z >= gainOf(second | third);
        return noneAlone && noTwo ? 1 : 0;
    }

    public int against(int one, int other, int what) {
        if (!areTwoIn(one, other) || !isWithin(what, 0, 1)) {
            return NONE;
        }
        int bid = now.bid;
        int asked = one;
        int waiting = other;
        for (int i = 0; i < MOST_RAISES; i++) {
            int raised = bid + text.step[asked];
            if (raised > now.bound[asked] || raised >= text.worth[asked]) {
                break;
            }
            bid = raised;
            int next = waiting;
            waiting = asked;
            asked = next;
        }
        if (what == 1) {
            return bid;
        }
        return waiting == one ? 0 : 1;
    }

    public int still() {
        int some = 0;
        for (int house = 0; house < text.houses; house++) {
            if (now.holds(house) && now.bid + text.step[house] <= now.bound[house]) {
                some |= 1 << house;
            }
        }
        return some;
    }

    public int most() {
        tryAsItGoes();
        int raises = 0;
        for (int row = 0; row < MOST_RAISES; row++) {
            int more = raisesInRow();
            if (more == 0) {
                break;
            }
            raises += more;
        }
        return raises;
    }

    private int raisesInRow() {
        int raises = 0;
        for (int house = 0; house < text.houses; house++) {
            if (course.mayNod(trial, house)) {
                course.raise(trial, house);
                raises++;
            }
        }
        return raises;
    }

    public int rival(int house) {
        if (!isHouse(house)) {
            return NONE;
        }
        int best = NEVER;
        for (int other = 0; other < text.houses; other++) {
            boolean higher = best < 0 || now.bound[other] > now.bound[best];
            if (other != house && now.holds(other) && higher) {
                best = other;
            }
        }
        return best;
    }

    // ---- the table

    public int same() {
        return partsLeftIn(0);
    }

    public int sameIn(int n) {
        return isWithin(n, 0, 999) ? partsLeftIn(n) : NONE;
    }

    private int partsLeftIn(int years) {
        int parts = 0;
        for (int part = 0; part < text.parts; part++) {
            if (now.isFirst(part) && now.yearsToRenewal(text, part) > years) {
                parts++;
            }
        }
        return parts;
    }

    public int noneLeft() {
        int years = 0;
        for (int part = 0; part < text.parts; part++) {
            if (now.isFirst(part)) {
                years = Math.max(years, now.yearsToRenewal(text, part));
            }
        }
        return years <= FALL_YEARS ? years : NEVER;
    }

    public int nextPart(int what) {
        if (!isWithin(what, 0, 1)) {
            return NONE;
        }
        int next = NEVER;
        int years = NEVER;
        for (int part = 0; part < text.parts; part++) {
            int till = now.yearsToRenewal(text, part);
            if (next == NEVER || till < years) {
                next = part;
                years = till;
            }
        }
        return what == 0 ? next : years;
    }

    // ---- what was seen

    public int see(int years, int bid, boolean atLeast) {
        if (!isWithin(years, 1, 99) || !isWithin(bid, 0, 9999)) {
            return NONE;
        }
        return seen.add(atLeast ? Seen.BID_AT_LEAST : Seen.BID_BELOW, years, bid);
    }

    public int strike(int seenOne) {
        if (seenOne < 0 || seenOne >= seen.size) {
            return NONE;
        }
        return seen.add(Seen.STRIKE, 0, seenOne);
    }

    public boolean known(int n) {
        if (!isWithin(n, -1, seen.size)) {
            return false;
        }
        seen.knownBy = n;
        return true;
    }

    public int bounds(int house) {
        if (!isHouse(house)) {
            return NONE;
        }
        seen.findStruck();
        int some = 0;
        for (int i = 0; i < 10; i++) {
            if (agreesWithSeen(house, 20 * i)) {
                some |= 1 << i;
            }
        }
        return some;
    }

    private boolean agreesWithSeen(int house, int bound) {
        course.asItGoes(text);
        trial.begin(text);
        trial.bound[house] = bound;
        for (int years = 1; years <= 99; years++) {
            course.passYear(trial);
            if (!seen.allows(years, trial.bid)) {
                return false;
            }
        }
        return true;
    }

    // ---- the classes inside

    /** What a TEXT tells. */
    private static final class Text {
        int lines;
        int houses;
        final int[] houseName = new int[MOST_HOUSES];
        final int[] bound = new int[MOST_HOUSES];
        final int[] worth = new int[MOST_HOUSES];
        final int[] step = new int[MOST_HOUSES];
        final int[] age = new int[MOST_HOUSES];
        final int[] heirs = new int[MOST_HOUSES];
        int parts;
        final int[] partName = new int[MOST_PARTS];
        final int[] lasts = new int[MOST_PARTS];
        final int[] old = new int[MOST_PARTS];
        int calls;
        int open;
        int seed;
        final Laws laws = new Laws();

        Text() {
            calls = 3;
        }

        void empty() {
            lines = 0;
            houses = 0;
            parts = 0;
            calls = 3;
            open = 0;
            seed = 0;
            laws.empty();
        }
    }

    /** The E of each law, its knots in the order in which they are worked out (operands ahead of signs). */
    private static final class Laws {
        final int[] kind = new int[MOST_KNOTS];
        final int[] number = new int[MOST_KNOTS];
        final int[] from = new int[LAWS];
        final int[] upTo = new int[LAWS];
        int knots;

        void empty() {
            knots = 0;
            for (int i = 0; i < LAWS; i++) {
                from[i] = 0;
                upTo[i] = 0;
            }
        }

        boolean isTold(int which) {
            return upTo[which] > from[which];
        }

        void add(int knotKind, int knotNumber) {
            if (knots < MOST_KNOTS) {
                kind[knots] = knotKind;
                number[knots] = knotNumber;
                knots++;
            }
        }
    }

    /** The tokens of a tape, one at a time. */
    private static final class Tokens {
        private static final int MOST_LETTERS = 6;
        private static final int BEYOND_ALL = 1000000;
        private final byte[] bytes;
        private int length;
        private int next;
        int kind;
        int place;
        /** The value of a NUMBER, the letters of a NAME. */
        int value;

        Tokens(byte[] bytes) {
            this.bytes = bytes;
        }

        void start(int n) {
            length = Math.min(n, bytes.length);
            next = 0;
            advance();
        }

        void advance() {
            while (next < length && (bytes[next] == ' ' || bytes[next] == 10)) {
                next++;
            }
            place = next;
            value = 0;
            if (next >= length) {
                kind = END;
            } else if (isLetter(bytes[next])) {
                readWord();
            } else if (isDigit(bytes[next])) {
                readNumber();
            } else {
                readSign(bytes[next]);
            }
        }

        private static boolean isLetter(int sign) {
            return sign >= 'a' && sign <= 'z';
        }

        private static boolean isDigit(int sign) {
            return sign >= '0' && sign <= '9';
        }

        private void readWord() {
            int size = 0;
            while (next < length && isLetter(bytes[next])) {
                if (size < MOST_LETTERS) {
                    value |= bytes[next] - 'a' + 1 << 25 - 5 * size;
                }
                size++;
                next++;
            }
            // a longer word may begin with six letters that are a word of the language
            int word = size > MOST_LETTERS ? NONE : placeOf(value, WORDS, WORDS.length);
            if (word != NONE) {
                kind = word;
            } else {
                kind = size > MOST_LETTERS ? NO_TOKEN : NAME;
            }
        }

        private void readNumber() {
            kind = NUMBER;
            while (next < length && isDigit(bytes[next])) {
                value = Math.min(BEYOND_ALL, 10 * value + bytes[next] - '0');
                next++;
            }
        }

        private void readSign(int sign) {
            kind = kindOfSign(sign);
            next++;
            if (kind == LESS && isNext('=')) {
                kind = AT_MOST;
                next++;
            } else if (kind == LESS && isNext('>')) {
                kind = UNEQUAL;
                next++;
            } else if (kind == GREATER && isNext('=')) {
                kind = AT_LEAST;
                next++;
            }
        }

        private boolean isNext(int sign) {
            return next < length && bytes[next] == sign;
        }

        private static int kindOfSign(int sign) {
            switch (sign) {
                case ';':
                    return SEMICOLON;
                case '(':
                    return OPENING;
                case ')':
                    return CLOSING;
                case '<':
                    return LESS;
                case '=':
                    return EQUAL;
                case '>':
                    return GREATER;
                case '+':
                    return PLUS;
                case '-':
                    return MINUS;
                case '*':
                    return TIMES;
                case '/':
                    return DIVIDED;
                default:
                    return NO_TOKEN;
            }
        }
    }

    /** Reads the LINES of a TEXT up to the first FAULT, which is at the token that is read last. */
    private static final class Reader {
        private final Tokens tokens;
        private final FormulaReader formulas;
        private Text text;
        private int fault;
        /** Bits of the kinds CALLS, OPEN, SEED. */
        private int toldOnce;

        Reader(byte[] bytes, Text text) {
            this.text = text;
            tokens = new Tokens(bytes);
            formulas = new FormulaReader(tokens, text.laws);
        }

        int faultKind() {
            return fault;
        }

        int faultAt() {
            return tokens.place;
        }

        boolean readText(Text into, int length) {
            text = into;
            text.empty();
            fault = 0;
            toldOnce = 0;
            formulas.begin();
            tokens.start(length);
            // a LINE is some bytes long, so the tape's size is beyond all LINES
            for (int i = 0; i <= TAPE_SIZE && tokens.kind != END; i++) {
                if (!readLine() || !endLine()) {
                    return false;
                }
            }
            return true;
        }

        private boolean refuse(int what) {
            fault = what;
            return false;
        }

        private boolean endLine() {
            if (tokens.kind != SEMICOLON) {
                return refuse(FAULT_TOKEN);
            }
            tokens.advance();
            text.lines++;
            return true;
        }

        private boolean readLine() {
            switch (tokens.kind) {
                case HOUSE:
                    return readHouse();
                case PART:
                    return readPart();
                case CALLS:
                case OPEN:
                case SEED:
                    return readSetting(tokens.kind);
                case LAW:
                    return readLaw();
                default:
                    return refuse(FAULT_TOKEN);
            }
        }

        private boolean readHouse() {
            int house = text.houses;
            if (house >= MOST_HOUSES) {
                return refuse(FAULT_TOO_MUCH);
            }
            tokens.advance();
            if (!readName(text.houseName, house)) {
                return false;
            }
            boolean good = readNumber(text.bound, house, 0, 999)
                    && readNumber(text.worth, house, 0, 999)
                    && readNumber(text.step, house, 1, 99)
                    && readNumber(text.age, house, 0, 99)
                    && readNumber(text.heirs, house, 0, MOST_HEIRS);
            text.houses++;
            return good;
        }

        private boolean readPart() {
            int part = text.parts;
            if (part >= MOST_PARTS) {
                return refuse(FAULT_TOO_MUCH);
            }
            tokens.advance();
            if (!readName(text.partName, part)) {
                return false;
            }
            boolean good = readNumber(text.lasts, part, 1, 99) && readNumber(text.old, part, 0, 99);
            text.parts++;
            return good;
        }

        private boolean readName(int[] names, int count) {
            if (tokens.kind != NAME) {
                return refuse(FAULT_TOKEN);
            }
            if (placeOf(tokens.value, names, count) != NONE) {
                return refuse(FAULT_TOLD);
            }
            if (count < names.length) {
                names[count] = tokens.value;
            }
            tokens.advance();
            return true;
        }

        private boolean readNumber(int[] row, int at, int least, int most) {
            if (!isNumber(least, most)) {
                return false;
            }
            if (at < row.length) {
                row[at] = tokens.value;
            }
            tokens.advance();
            return true;
        }

        private boolean isNumber(int least, int most) {
            if (tokens.kind != NUMBER) {
                return refuse(FAULT_TOKEN);
            }
            return isWithin(tokens.value, least, most) || refuse(FAULT_TOO_MUCH);
        }

        private boolean readSetting(int kind) {
            if ((toldOnce >> kind & 1) == 1) {
                return refuse(FAULT_TOLD);
            }
            toldOnce |= 1 << kind;
            tokens.advance();
            if (!isNumber(kind == CALLS ? 1 : 0, mostOfSetting(kind))) {
                return false;
            }
            if (kind == CALLS) {
                text.calls = tokens.value;
            } else if (kind == OPEN) {
                text.open = tokens.value;
            } else {
                text.seed = tokens.value;
            }
            tokens.advance();
            return true;
        }

        private static int mostOfSetting(int kind) {
            switch (kind) {
                case CALLS:
                    return 20;
                case OPEN:
                    return 999;
                default:
                    return 99999;
            }
        }

        private boolean readLaw() {
            tokens.advance();
            if (!isWithin(tokens.kind, DEATH, RAISE)) {
                return refuse(FAULT_TOKEN);
            }
            int which = tokens.kind - DEATH;
            if (text.laws.isTold(which)) {
                return refuse(FAULT_TOLD);
            }
            tokens.advance();
            int found = formulas.readFormula(text.laws, which);
            return found == 0 || refuse(found);
        }
    }

    /** Reads an E: signs wait until what binds closer has been put into the law. */
    private static final class FormulaReader {
        private final Tokens tokens;
        private Laws laws;
        private final int[] waiting = new int[MOST_KNOTS + MOST_OPEN];
        private int waitingCount;
        private int open;
        /** Bits of how many '(' are open where a comparison stands already. */
        private int compared;
        private boolean operandDue;
        private boolean notMayStand;
        private int knotsMet;

        FormulaReader(Tokens tokens, Laws laws) {
            this.tokens = tokens;
            this.laws = laws;
        }

        void begin() {
            knotsMet = 0;
        }

        /** The FAULT at the token that is read last, or 0 if the E ends well ahead of a ';'. */
        int readFormula(Laws into, int which) {
            laws = into;
            waitingCount = 0;
            open = 0;
            compared = 0;
            operandDue = true;
            notMayStand = true;
            int from = laws.knots;
            int fault = 0;
            for (int i = 0; i <= TAPE_SIZE && fault == 0 && !isEnd(); i++) {
                if (operandDue) {
                    fault = takeOperand();
                } else {
                    fault = tokens.kind == CLOSING ? takeClosing() : takeSign();
                }
                if (fault == 0) {
                    tokens.advance();
                }
            }
            if (fault == 0) {
                releaseDownTo(0);
                laws.from[which] = from;
                laws.upTo[which] = laws.knots;
            }
            return fault;
        }

        private boolean isEnd() {
            return !operandDue && open == 0 && tokens.kind == SEMICOLON;
        }

        private int takeOperand() {
            int kind = tokens.kind;
            if (kind == NUMBER || isWithin(kind, BID, YEAR)) {
                return takeValue(kind);
            }
            if (kind == OPENING) {
                return takeOpening();
            }
            if (kind != NOT || !notMayStand) {
                return FAULT_TOKEN;
            }
            if (!meetKnot()) {
                return FAULT_TOO_MUCH;
            }
            putOff(NOT);
            return 0;
        }

        private int takeValue(int kind) {
            if (!meetKnot() || tokens.value > 9999 && kind == NUMBER) {
                return FAULT_TOO_MUCH;
            }
            laws.add(kind, tokens.value);
            operandDue = false;
            return 0;
        }

        private int takeOpening() {
            if (open >= MOST_OPEN) {
                return FAULT_TOO_MUCH;
            }
            open++;
            compared &= ~(1 << open);
            notMayStand = true;
            putOff(OPENING);
            return 0;
        }

        private int takeSign() {
            int kind = tokens.kind;
            boolean comparison = isWithin(kind, LESS, GREATER);
            boolean second = comparison && (compared >> open & 1) == 1;
            if (rankOf(kind) == 0 || kind == NOT || second) {
                return FAULT_TOKEN;
            }
            if (!meetKnot()) {
                return FAULT_TOO_MUCH;
            }
            notMayStand = kind == AND || kind == OR;
            if (notMayStand) {
                compared &= ~(1 << open);
            } else if (comparison) {
                compared |= 1 << open;
            }
            releaseDownTo(rankOf(kind));
            putOff(kind);
            operandDue = true;
            return 0;
        }

        private int takeClosing() {
            if (open == 0) {
                return FAULT_TOKEN;
            }
            releaseDownTo(1);
            waitingCount = Math.max(0, waitingCount - 1);
            open--;
            return 0;
        }

        private boolean meetKnot() {
            knotsMet++;
            return knotsMet <= MOST_KNOTS;
        }

        private void putOff(int kind) {
            if (waitingCount < waiting.length) {
                waiting[waitingCount] = kind;
                waitingCount++;
            }
        }

        /** Puts what waits since the latest '(' and binds so close at least into the law. */
        private void releaseDownTo(int rank) {
            while (waitingCount > 0 && waiting[waitingCount - 1] != OPENING
                    && rankOf(waiting[waitingCount - 1]) >= rank) {
                waitingCount--;
                laws.add(waiting[waitingCount], 0);
            }
        }

        /** How close a sign binds; 0: it is none that waits for an operand. */
        private static int rankOf(int kind) {
            switch (kind) {
                case OR:
                    return 1;
                case AND:
                    return 2;
                case NOT:
                    return 3;
                case LESS:
                case AT_MOST:
                case EQUAL:
                case UNEQUAL:
                case AT_LEAST:
                case GREATER:
                    return 4;
                case PLUS:
                case MINUS:
                    return 5;
                case TIMES:
                case DIVIDED:
                    return 6;
                default:
                    return 0;
            }
        }
    }

    /** How the sale stands at one time. */
    private static final class Sale {
        final int[] bound = new int[MOST_HOUSES];
        final int[] age = new int[MOST_HOUSES];
        final int[] heirs = new int[MOST_HOUSES];
        final int[] raised = new int[MOST_HOUSES];
        final int[] lastBid = new int[MOST_HOUSES];
        final int[] old = new int[MOST_PARTS];
        /** Bits of the HOUSES that are IN. */
        int in;
        /** Bits of the PARTS that are of the first table. */
        private int first;
        int year;
        int bid;
        int leader;
        int called;
        int died;
        int number;
        boolean fallen;

        Sale() {
            leader = NONE;
        }

        void begin(Text text) {
            for (int house = 0; house < text.houses; house++) {
                bound[house] = text.bound[house];
                age[house] = text.age[house];
                heirs[house] = text.heirs[house];
                raised[house] = 0;
                lastBid[house] = NONE;
            }
            for (int part = 0; part < text.parts; part++) {
                old[part] = text.old[part];
            }
            in = (1 << text.houses) - 1;
            first = (1 << text.parts) - 1;
            year = 0;
            bid = text.open;
            leader = NONE;
            called = 0;
            died = 0;
            number = text.seed;
            fallen = false;
        }

        void become(Sale other) {
            System.arraycopy(other.bound, 0, bound, 0, MOST_HOUSES);
            System.arraycopy(other.age, 0, age, 0, MOST_HOUSES);
            System.arraycopy(other.heirs, 0, heirs, 0, MOST_HOUSES);
            System.arraycopy(other.raised, 0, raised, 0, MOST_HOUSES);
            System.arraycopy(other.lastBid, 0, lastBid, 0, MOST_HOUSES);
            System.arraycopy(other.old, 0, old, 0, MOST_PARTS);
            in = other.in;
            first = other.first;
            year = other.year;
            bid = other.bid;
            leader = other.leader;
            called = other.called;
            died = other.died;
            number = other.number;
            fallen = other.fallen;
        }

        boolean holds(int house) {
            return (in >> house & 1) == 1;
        }

        boolean hasFallenTo(int house) {
            return fallen && leader == house;
        }

        boolean isFirst(int part) {
            return (first >> part & 1) == 1;
        }

        void growOlder(int house) {
            age[house] = Math.min(MOST_AGE, age[house] + 1);
        }

        void end(int house) {
            in &= ~(1 << house);
        }

        void wed(int one, int other) {
            bound[one] = Math.min(MOST_BOUND, bound[one] + bound[other]);
            heirs[one] = Math.min(MOST_HEIRS, heirs[one] + heirs[other]);
            end(other);
            if (leader == other) {
                leader = one;
            }
        }

        void setAllBounds(int most) {
            for (int house = 0; house < MOST_HOUSES; house++) {
                bound[house] = most;
            }
        }

        int yearsToRenewal(Text text, int part) {
            return Math.max(1, text.lasts[part] - old[part]);
        }

        void ageParts(Text text) {
            for (int part = 0; part < text.parts; part++) {
                old[part]++;
                if (old[part] >= text.lasts[part]) {
                    old[part] = 0;
                    first &= ~(1 << part);
                }
            }
        }

        int nextNumber() {
            number = number * 1103515245 + 12345 & Integer.MAX_VALUE;
            return number / 65536;
        }
    }

    /** How YEARS go by for a sale, by numbers or as it goes, and what is tried otherwise in them. */
    private static final class Course {
        private static final long LIMIT = 1000000000000L;
        private final long[] stack = new long[MOST_KNOTS];
        private Text text;
        private boolean drawn;
        boolean deathless;
        boolean endless;
        boolean smallSteps;
        /** Bits of the HOUSES that never RAISE in their TURN. */
        int hushed;

        Course(Text text) {
            this.text = text;
        }

        void asItGoes(Text told) {
            text = told;
            drawn = false;
            deathless = false;
            endless = false;
            smallSteps = false;
            hushed = 0;
        }

        void byNumbers(Text told) {
            asItGoes(told);
            drawn = true;
        }

        void passYears(Sale sale, int years) {
            for (int i = 0; i < years && !sale.fallen; i++) {
                passYear(sale);
            }
        }

        /** In how many YEARS the table has FALLEN, so many at most; NEVER: not by then. */
        int yearsToFall(Sale sale, int most) {
            for (int i = 0; i < most && !sale.fallen; i++) {
                if (sale.in == 0 && sale.leader == NONE) {
                    return NEVER;
                }
                passYear(sale);
                if (sale.fallen) {
                    return i + 1;
                }
            }
            return sale.fallen ? 0 : NEVER;
        }

        /** A YEAR but for the table's PARTS; who RAISED in it, or NONE. */
        int passYear(Sale sale) {
            int raiser = NONE;
            if (!sale.fallen) {
                for (int house = 0; house < text.houses; house++) {
                    if (sale.holds(house)) {
                        passHead(sale, house);
                    }
                }
                raiser = takeTurn(sale);
                if (raiser == NONE && sale.leader != NONE) {
                    sale.called++;
                    sale.fallen = sale.called >= text.calls;
                }
            }
            sale.year++;
            return raiser;
        }

        private void passHead(Sale sale, int house) {
            sale.growOlder(house);
            if (!deathless && isDying(sale, deathOf(sale, house))) {
                handOn(sale, house);
            }
        }

        private boolean isDying(Sale sale, int likely) {
            if (!drawn) {
                return likely >= 50;
            }
            if (likely == 0 || likely == 100) {
                return likely == 100;
            }
            return sale.nextNumber() % 100 < likely;
        }

        /** E of death, 0 .. 100. */
        int deathOf(Sale sale, int house) {
            long value = valueOf(LAW_DEATH, sale, house);
            if (value == ERROR) {
                return Math.max(0, sale.age[house] - 40);
            }
            return (int) Math.max(0, Math.min(100, value));
        }

        private void handOn(Sale sale, int house) {
            sale.died++;
            if (sale.heirs[house] == 0 && endless) {
                sale.heirs[house] = 1;
            }
            if (sale.heirs[house] == 0) {
                sale.end(house);
                return;
            }
            sale.heirs[house]--;
            long value = valueOf(LAW_WILL, sale, house);
            if (value != ERROR) {
                sale.bound[house] = (int) Math.max(0, Math.min(MOST_BOUND, value));
            }
            sale.age[house] = HEIR_AGE;
        }

        private int takeTurn(Sale sale) {
            int house = whoseTurn(sale);
            if (house == NONE || (hushed >> house & 1) == 1 || !mayNod(sale, house)) {
                return NONE;
            }
            // an ERROR isn't 0: it RAISES with one, and without a law
            if (valueOf(LAW_RAISE, sale, house) == 0) {
                return NONE;
            }
            raise(sale, house);
            return house;
        }

        int whoseTurn(Sale sale) {
            int told = text.houses;
            for (int i = 0; i < told; i++) {
                int house = (sale.year + i) % told;
                if (sale.holds(house)) {
                    return house;
                }
            }
            return NONE;
        }

        private int stepOf(int house) {
            return smallSteps ? 1 : text.step[house];
        }

        boolean mayNod(Sale sale, int house) {
            return !sale.fallen && sale.holds(house) && sale.leader != house
                    && sale.bid + stepOf(house) <= sale.bound[house];
        }

        void raise(Sale sale, int house) {
            sale.bid += stepOf(house);
            sale.leader = house;
            sale.called = 0;
            sale.raised[house]++;
            sale.lastBid[house] = sale.bid;
        }

        /** What a law says of a HOUSE; ERROR, if it isn't told or can't be worked out. */
        long valueOf(int which, Sale sale, int house) {
            Laws laws = text.laws;
            int size = 0;
            for (int i = laws.from[which]; i < laws.upTo[which]; i++) {
                int kind = laws.kind[i];
                if (kind == NUMBER || isWithin(kind, BID, YEAR)) {
                    if (size >= MOST_KNOTS) {
                        return ERROR;
                    }
                    stack[size] = kind == NUMBER ? laws.number[i] : nameOf(kind, sale, house);
                    size++;
                } else {
                    // not has one operand: it stands for both sides
                    int first = kind == NOT ? size - 1 : size - 2;
                    if (first < 0) {
                        return ERROR;
                    }
                    long value = join(kind, stack[first], stack[size - 1]);
                    if (value > LIMIT || value < -LIMIT) {
                        return ERROR;
                    }
                    stack[first] = value;
                    size = first + 1;
                }
            }
            return size == 1 ? stack[0] : ERROR;
        }

        private int nameOf(int kind, Sale sale, int house) {
            switch (kind) {
                case BID:
                    return sale.bid;
                case BOUND:
                    return sale.bound[house];
                case WORTH:
                    return text.worth[house];
                case AGE:
                    return sale.age[house];
                case HEIRS:
                    return sale.heirs[house];
                case CALLED:
                    return sale.called;
                default:
                    return sale.year;
            }
        }

        /** Of values within the limit: a value that may be beyond it, ERROR for / by 0. */
        private static long join(int kind, long a, long b) {
            switch (kind) {
                case NOT:
                    return a == 0 ? 1 : 0;
                case OR:
                    return a != 0 || b != 0 ? 1 : 0;
                case AND:
                    return a != 0 && b != 0 ? 1 : 0;
                case LESS:
                    return a < b ? 1 : 0;
                case AT_MOST:
                    return a <= b ? 1 : 0;
                case EQUAL:
                    return a == b ? 1 : 0;
                case UNEQUAL:
                    return a != b ? 1 : 0;
                case AT_LEAST:
                    return a >= b ? 1 : 0;
                case GREATER:
                    return a > b ? 1 : 0;
                case PLUS:
                    return a + b;
                case MINUS:
                    return a - b;
                case TIMES:
                    // the product itself might go beyond a long and come out small
                    return a != 0 && Math.abs(b) > LIMIT / Math.abs(a) ? ERROR : a * b;
                default:
                    return b == 0 ? ERROR : a / b;
            }
        }
    }

    /** What was ahead of the latest nods, marriages, wills and children: each changes one HOUSE and the bidding. */
    private static final class Undoing {
        private static final int WIDTH = 9;
        private final int[] row = new int[MOST_UNDONE * WIDTH];
        int size;

        void forget() {
            size = 0;
        }

        void note(Sale sale, int house) {
            if (size >= MOST_UNDONE) {
                System.arraycopy(row, WIDTH, row, 0, (MOST_UNDONE - 1) * WIDTH);
                size = MOST_UNDONE - 1;
            }
            int at = size * WIDTH;
            row[at] = house;
            row[at + 1] = sale.bound[house];
            row[at + 2] = sale.heirs[house];
            row[at + 3] = sale.raised[house];
            row[at + 4] = sale.lastBid[house];
            row[at + 5] = sale.in;
            row[at + 6] = sale.bid;
            row[at + 7] = sale.leader;
            row[at + 8] = sale.called;
            size++;
        }

        int takeBack(Sale sale) {
            if (size <= 0) {
                return NONE;
            }
            size--;
            int at = size * WIDTH;
            int house = row[at];
            sale.bound[house] = row[at + 1];
            sale.heirs[house] = row[at + 2];
            sale.raised[house] = row[at + 3];
            sale.lastBid[house] = row[at + 4];
            sale.in = row[at + 5];
            sale.bid = row[at + 6];
            sale.leader = row[at + 7];
            sale.called = row[at + 8];
            return size;
        }
    }

    /** What was SEEN, and STRIKES of it. */
    private static final class Seen {
        static final int BID_BELOW = 0;
        static final int BID_AT_LEAST = 1;
        static final int STRIKE = 2;
        private final int[] kind = new int[MOST_SEEN];
        private final int[] years = new int[MOST_SEEN];
        /** The BID, or the number of what is STRUCK. */
        private final int[] value = new int[MOST_SEEN];
        private final boolean[] struck = new boolean[MOST_SEEN];
        int size;
        /** The first so many; NONE: all, also those to come. */
        int knownBy;

        Seen() {
            knownBy = NONE;
        }

        void forget() {
            size = 0;
            knownBy = NONE;
        }

        int howManyKnown() {
            return knownBy == NONE ? size : Math.min(knownBy, size);
        }

        int add(int newKind, int newYears, int newValue) {
            if (size >= MOST_SEEN) {
                return NONE;
            }
            kind[size] = newKind;
            years[size] = newYears;
            value[size] = newValue;
            size++;
            return size - 1;
        }

        void findStruck() {
            int first = howManyKnown();
            for (int i = 0; i < first; i++) {
                struck[i] = false;
            }
            // a STRIKE is behind what it STRIKES, so from the last one on each is judged in time
            for (int i = first - 1; i >= 0; i--) {
                if (kind[i] == STRIKE && !struck[i] && value[i] < i) {
                    struck[value[i]] = true;
                }
            }
        }

        /** Whether all KNOWN ones behind so many YEARS are so with a BID. */
        boolean allows(int behind, int bid) {
            int first = howManyKnown();
            for (int i = 0; i < first; i++) {
                boolean asked = kind[i] != STRIKE && !struck[i] && years[i] == behind;
                boolean atLeast = bid >= value[i];
                if (asked && atLeast != (kind[i] == BID_AT_LEAST)) {
                    return false;
                }
            }
            return true;
        }
    }
}
