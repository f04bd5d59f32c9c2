/** Terms, ==== 3: what each question asks, but for what was SEEN, sentence by sentence. */
public final class TermsOfQuestionsTest {
    private static final Check CHECK = new Check();
    /** a may RAISE in one YEAR, which is told behind it, and has the table at 1 a YEAR later. */
    private static final String LATE = "house a 9 9 1 20 0;law death 0;calls 1;law raise year = ";
    /** Both DIE in each YEAR but the first one, without HEIRS. */
    private static final String DYING = "house a 50 0 5 20 0;house b 50 0 5 20 0;law death year * 100;";

    public static void main(String[] args) throws IllegalAccessException {
        Sentences.run(TermsOfQuestionsTest.class, CHECK);
    }

    // ---- AHEAD, FALLS, LET GO, OUTBID

    @Says(promise = 0,
            sentence = "AHEAD for n YEARS as it goes: BID, who LEADS, how many are IN, how often heads DIED more.")
    static void ahead() {
        BidLines x = Check.of(Check.DUEL);
        int[] bid = {0, 10, 15, 25, 25, 25, 25, 25};
        int[] leads = {-2, 0, 1, 0, 0, 0, 0, 0};
        for (int n = 0; n < bid.length; n++) {
            CHECK.due("BID in " + n, x.ahead(n, 0), bid[n]);
            CHECK.due("who LEADS in " + n, x.ahead(n, 1), leads[n]);
        }
        // a is 90 behind YEAR 1 and, as its heir, behind YEAR 71; b behind YEAR 69
        x = Check.of("house a 0 0 1 88 1;house b 0 0 1 20 0;");
        int[] years = {0, 1, 2, 69, 70, 71, 72, 99};
        int[] in = {2, 2, 2, 2, 1, 1, 0, 0};
        int[] died = {0, 0, 1, 1, 2, 2, 3, 3};
        for (int i = 0; i < years.length; i++) {
            CHECK.due("IN in " + years[i], x.ahead(years[i], 2), in[i]);
            CHECK.due("DIED in " + years[i], x.ahead(years[i], 3), died[i]);
        }
        x = Check.of("house a 0 0 1 20 9;law death 100;");
        x.go(4);
        CHECK.due("DIED so far doesn't count", x.ahead(3, 3), 3);
        CHECK.due("none more now", x.ahead(0, 3), 0);
    }

    @Says(promise = 0,
            sentence = "FALLS: in how many YEARS as it goes, 999 at most, the table has FALLEN (0: it has).")
    static void falls() {
        BidLines x = Check.of(Check.DUEL);
        for (int year = 0; year <= 7; year++) {
            CHECK.due("in YEAR " + year, x.falls(0), Math.max(0, 6 - year));
            x.go(1);
        }
        CHECK.due("999 YEARS", Check.of(LATE + "997;").falls(0), 999);
        CHECK.due("1000 YEARS", Check.of(LATE + "998;").falls(0), -2);
        x = Check.of(LATE + "998;");
        x.go(1);
        CHECK.due("999 YEARS from now on", x.falls(0), 999);
        CHECK.due("never", Check.of("house a 0 9 1 20 0;").falls(0), -2);
        // who LEADS is ENDED ahead of the call: it FALLS all the same
        CHECK.due("DYING", Check.of(DYING).falls(0), 4);
    }

    @Says(promise = 0, sentence = "LET GO of a HOUSE: the least BOUND more 0 .. 300 now")
    static void letGo() {
        String open = "house a 0 0 1 20 1;law death 0;calls 1;open ";
        CHECK.due("1", Check.of(open + "0;").letGo(0), 1);
        CHECK.due("299", Check.of(open + "298;").letGo(0), 299);
        CHECK.due("300", Check.of(open + "299;").letGo(0), 300);
        CHECK.due("301", Check.of(open + "300;").letGo(0), -2);
        BidLines x = Check.of(open + "300;");
        x.will(0, 1);
        CHECK.due("more than its BOUND now", x.letGo(0), 300);
        x.will(0, 301);
        CHECK.due("0", x.letGo(0), 0);
        // the least, where a greater one would not do, and one that isn't the least would
        CHECK.due("only 77", Check.of("house a 5 9 1 20 0;law death 0;law raise bound = 77;").letGo(0), 72);
        CHECK.due("50 and more", Check.of("house a 5 9 1 20 0;law death 0;law raise bound >= 50;").letGo(0), 45);
        // now: a will of this YEAR takes it away
        String will = "house a 0 0 1 20 1;law death (year = 0) * 100;open 2;calls 1;law will ";
        CHECK.due("will 3", Check.of(will + "3;").letGo(0), 0);
        CHECK.due("will 2", Check.of(will + "2;").letGo(0), -2);
    }

    @Says(promise = 0, sentence = "by which the table FALLS to it within 120 YEARS as it goes.")
    static void letGoWithin120Years() {
        CHECK.due("119 YEARS", Check.of(LATE + "117;").letGo(0), 0);
        CHECK.due("120 YEARS", Check.of(LATE + "118;").letGo(0), 0);
        CHECK.due("121 YEARS", Check.of(LATE + "119;").letGo(0), -2);
        BidLines x = Check.of(Check.DUEL);
        CHECK.due("it FALLS to a", x.letGo(0), 0);
        // b needs 30 for 30, and a goes to 30 only: it stops at 25
        CHECK.due("b", x.letGo(1), 5);
        x.go(6);
        CHECK.due("it has FALLEN to a", x.letGo(0), 0);
        CHECK.due("not to b", x.letGo(1), -2);
    }

    @Says(promise = 0, sentence = "OUTBID: the fewest HOUSES that are IN (one at least; bits, of several the least)")
    static void outbidByTheFewest() {
        CHECK.due("one", Check.of("house a 5 0 1 20 0;house b 6 0 1 20 0;house c 4 0 1 20 0;").outbid(), 2);
        CHECK.due("pairs: a, b", Check.of("house a 5 0 1 20 0;house b 5 0 1 20 0;house c 5 0 1 20 0;").outbid(), 3);
        CHECK.due("fewer, not the least bits", Check.of("house a 3 0 1 20 0;house b 3 0 1 20 0;house c 5 0 1 20 0;").outbid(), 4);
        CHECK.due("all six", Check.of("house a 1 0 1 20 0;house b 1 0 1 20 0;house c 1 0 1 20 0;house d 1 0 1 20 0;"
                + "house e 1 0 1 20 0;house f 1 0 1 20 0;open 5;").outbid(), 63);
        CHECK.due("no HOUSES", new BidLines().outbid(), -2);
        CHECK.due("no HOUSES, a BID", Check.of("open 5;").outbid(), -2);
        BidLines x = Check.of("house a 5 0 1 20 0;house b 9 0 1 20 0;house c 8 0 1 20 0;");
        x.marry(2, 1);
        x.will(2, 4);
        CHECK.due("b isn't IN", x.outbid(), 1);
    }

    @Says(promise = 0, sentence = "whose BOUNDS in sum are more than the BOUND of each other one that is IN,")
    static void outbidIsMore() {
        CHECK.due("as much isn't more", Check.of("house a 5 0 1 20 0;house b 5 0 1 20 0;").outbid(), 3);
        CHECK.due("one more", Check.of("house a 5 0 1 20 0;house b 6 0 1 20 0;").outbid(), 2);
        // a and b are 9 as c and d are each; a and c are 14
        CHECK.due("a sum that is as much", Check.of("house a 5 0 1 20 0;house b 4 0 1 20 0;house c 9 0 1 20 0;"
                + "house d 9 0 1 20 0;").outbid(), 5);
        CHECK.due("a sum that is more", Check.of("house a 5 0 1 20 0;house b 5 0 1 20 0;house c 9 0 1 20 0;"
                + "house d 9 0 1 20 0;").outbid(), 3);
        // of each other one, not of their sum
        CHECK.due("not their sum", Check.of("house a 9 0 1 20 0;house b 8 0 1 20 0;house c 8 0 1 20 0;").outbid(), 1);
    }

    @Says(promise = 0, sentence = "and no less than BID and the least STEP of theirs.")
    static void outbidTheBid() {
        String two = "house a 50 0 11 20 0;house b 5 0 20 20 0;open ";
        CHECK.due("a", Check.of(two + "39;").outbid(), 1);
        CHECK.due("both, by the STEP of a", Check.of(two + "40;").outbid(), 3);
        CHECK.due("both still", Check.of(two + "44;").outbid(), 3);
        CHECK.due("none", Check.of(two + "45;").outbid(), -2);
        CHECK.due("one", Check.of("house a 5 0 5 20 0;").outbid(), 1);
        CHECK.due("one that can't", Check.of("house a 4 0 5 20 0;").outbid(), -2);
    }

    // ---- AGAINST, STAYS

    private static void dueAgainst(BidLines x, int one, int other, int who, int bid) {
        CHECK.due("against(" + one + ", " + other + ", 0)", x.against(one, other, 0), who);
        CHECK.due("against(" + one + ", " + other + ", 1)", x.against(one, other, 1), bid);
    }

    @Says(promise = 0,
            sentence = "AGAINST: two HOUSES that are IN RAISE in turn, the first one first (whoever LEADS):")
    static void againstInTurn() {
        // a to 30, b to 50, a to 60, b to 80, a to 90, b stops
        BidLines x = Check.of("house a 100 200 10 30 1;house b 95 150 20 50 0;open 20;");
        dueAgainst(x, 0, 1, 0, 90);
        // b to 40, a to 50, b to 70, a to 80, b stops
        dueAgainst(x, 1, 0, 1, 80);
        x.nod(0);
        // a LEADS at 30 and is first all the same: 40, 60, 70, 90, 100, b stops
        dueAgainst(x, 0, 1, 0, 100);
        dueAgainst(x, 1, 0, 1, 90);
    }

    @Says(promise = 0, sentence = "one stops, if BID and STEP would be more than BOUND,")
    static void againstUpToBound() {
        String two = "house b 99 999 1 20 0;open 20;house a ";
        dueAgainst(Check.of(two + "24 999 5 20 0;"), 1, 0, 1, 20);
        dueAgainst(Check.of(two + "25 999 5 20 0;"), 1, 0, 1, 26);
        dueAgainst(Check.of(two + "30 999 5 20 0;"), 1, 0, 1, 26);
        dueAgainst(Check.of(two + "31 999 5 20 0;"), 1, 0, 1, 32);
    }

    @Says(promise = 0, sentence = "or WORTH at least: the other one has it at the BID that there is then.")
    static void againstUpToWorth() {
        String two = "house b 99 999 1 20 0;open 20;house a 999 ";
        dueAgainst(Check.of(two + "25 5 20 0;"), 1, 0, 1, 20);
        dueAgainst(Check.of(two + "26 5 20 0;"), 1, 0, 1, 26);
        dueAgainst(Check.of(two + "31 5 20 0;"), 1, 0, 1, 26);
        dueAgainst(Check.of(two + "32 5 20 0;"), 1, 0, 1, 32);
        // both stop: the first one stops first
        dueAgainst(Check.of("house a 0 9 1 20 0;house b 0 9 1 20 0;open 7;"), 0, 1, 1, 7);
        BidLines x = Check.of("house a 9 999 1 20 0;house b 9 999 1 20 0;");
        x.will(0, 9999);
        x.will(1, 9999);
        dueAgainst(x, 0, 1, 1, 998);
    }

    private static void dueStays(BidLines x, int[]... given) {
        for (int[] g : given) {
            CHECK.due("stays(0, 1, 2, " + g[0] + ", " + g[1] + ")", x.stays(0, 1, 2, g[0], g[1]), g[2]);
        }
    }

    @Says(promise = 0, sentence = "STAYS: three HOUSES marry for the table: HAS of some of them is the greatest WORTH of "
            + "these less BID (0 at least),")
    static void staysByWorth() {
        // only all three may go so far: they HAVE 75
        dueStays(Check.of("house a 10 30 1 20 0;house b 10 100 1 20 0;house c 10 50 1 20 0;open 25;"),
                new int[] {75, 0, 1}, new int[] {76, 0, 0}, new int[] {0, 75, 1}, new int[] {0, 76, 0});
        // WORTH is 1 more than BID, as much, 1 less
        dueStays(Check.of("house a 10 26 1 20 0;house b 10 1 1 20 0;house c 10 1 1 20 0;open 25;"),
                new int[] {1, 0, 1}, new int[] {2, 0, 0});
        dueStays(Check.of("house a 10 25 1 20 0;house b 10 1 1 20 0;house c 10 1 1 20 0;open 25;"),
                new int[] {0, 0, 1}, new int[] {1, 0, 0});
        dueStays(Check.of("house a 10 24 1 20 0;house b 10 1 1 20 0;house c 10 1 1 20 0;open 25;"),
                new int[] {0, 0, 1}, new int[] {0, -1, 0}, new int[] {1, 0, 0});
    }

    @Says(promise = 0, sentence = "if their BOUNDS in sum are BID and the least STEP of these at least, else 0.")
    static void staysByBounds() {
        String three = "house a 10 100 9 20 0;house b 10 100 1 20 0;house c 10 100 5 20 0;open ";
        dueStays(Check.of(three + "29;"), new int[] {71, 0, 1}, new int[] {72, 0, 0});
        dueStays(Check.of(three + "30;"), new int[] {0, 0, 1}, new int[] {1, 0, 0});
        // a and b, b and c may go to 20 by the STEP of b: 81; a and c, whose least STEP is 5, may not
        dueStays(Check.of(three + "19;"), new int[] {0, 81, 1}, new int[] {1, 80, 0}, new int[] {0, 80, 0});
        // a and c may by a STEP of 5, and all others by one of 1
        dueStays(Check.of(three + "15;"), new int[] {0, 85, 0}, new int[] {85, 0, 0}, new int[] {42, 43, 0});
        dueStays(Check.of(three + "16;"), new int[] {0, 84, 1}, new int[] {84, 0, 0}, new int[] {0, 83, 0});
    }

    @Says(promise = 0, sentence = "The first one is given x, the second one y, the third one what HAS of all three is more:")
    static void staysOfTheThird() {
        // each alone and each two HAVE 0, all three 70
        BidLines x = Check.of("house a 10 100 1 20 0;house b 10 100 1 20 0;house c 10 100 1 20 0;open 29;");
        dueStays(x, new int[] {71, 0, 1}, new int[] {70, 1, 1}, new int[] {70, 2, 0}, new int[] {0, 0, 1},
                new int[] {-9999, 9999, 0}, new int[] {9999, -9999, 0}, new int[] {9999, 9999, 0});
        // c alone has 90 of 90: nothing is left for a and b, in whatever order they are told
        x = Check.of("house a 0 1 1 20 0;house b 0 1 1 20 0;house c 50 100 1 20 0;open 10;");
        CHECK.due("c third", x.stays(0, 1, 2, 0, 0), 1);
        CHECK.due("c third", x.stays(0, 1, 2, 1, 0), 0);
        CHECK.due("c second", x.stays(0, 2, 1, 0, 90), 1);
        CHECK.due("c second", x.stays(0, 2, 1, 0, 89), 0);
        CHECK.due("c first", x.stays(2, 1, 0, 90, 0), 1);
        CHECK.due("c first", x.stays(2, 1, 0, 91, 0), 0);
    }

    @Says(promise = 0, sentence = "it STAYS so, if no one alone and no two of them together are given less than they HAVE.")
    static void staysIfNoneHasMore() {
        // alone: 90, 40, 20; two: 90, 90, 40; three: 90
        BidLines x = Check.of("house a 50 100 1 20 0;house b 50 50 1 20 0;house c 50 30 1 20 0;open 10;");
        dueStays(x, new int[] {90, 0, 0}, new int[] {30, 40, 0}, new int[] {89, 1, 0});
        // alone: a 0, b 0, c 0; a and b 80, a and c 80, b and c 60; three: 80
        x = Check.of("house a 15 100 1 20 0;house b 15 80 1 20 0;house c 15 50 1 20 0;open 20;");
        dueStays(x, new int[] {80, 0, 0}, new int[] {20, 60, 0}, new int[] {20, 30, 0});
        // alone: a 0, b 0, c 0; a and b 80, the others less than 21: three: 80
        x = Check.of("house a 15 100 1 20 0;house b 6 80 1 20 0;house c 5 50 1 20 0;open 20;");
        dueStays(x, new int[] {80, 0, 1}, new int[] {0, 80, 1}, new int[] {40, 40, 1}, new int[] {40, 39, 0},
                new int[] {81, -1, 0}, new int[] {-1, 81, 0}, new int[] {79, 0, 0});
        // only b and c HAVE something, 60 of 80
        x = Check.of("house a 0 100 9 20 0;house b 15 80 1 20 0;house c 6 50 1 20 0;open 20;");
        dueStays(x, new int[] {20, 60, 1}, new int[] {20, 0, 1}, new int[] {21, 59, 0}, new int[] {0, 80, 1});
        // only a and c HAVE something, 80 of 80
        x = Check.of("house a 15 100 1 20 0;house b 0 80 9 20 0;house c 6 50 1 20 0;open 20;");
        dueStays(x, new int[] {80, 0, 1}, new int[] {0, 0, 1}, new int[] {79, 1, 0}, new int[] {0, 1, 0});
    }

    // ---- WHEN, MATCH, HUSH

    /**
     * a RAISES at more than 14 alone, b ahead of YEAR 4. Without a nod b has it at 10 behind YEAR 4. A nod ahead of YEAR
     * 0 or 1: a 5, b 15, a 20, b 30, a 35; ahead of YEAR 2 or 3: b 10, a 15, b 25, a 30; ahead of YEAR 4: b 10, a 15.
     */
    private static final String NODS = "house a 100 0 5 20 0;house b 55 0 10 20 0;law death 0;calls 3;"
            + "law raise bound = 55 and year < 4 or bound = 100 and bid > 14;";

    @Says(promise = 0, sentence = "WHEN for a HOUSE: in which YEAR 0 .. n from now on it had best nod once")
    static void whenFromNowOn() {
        BidLines x = Check.of(NODS);
        int[] best = {0, 0, 2, 2, 4, 4};
        int[] bid = {35, 35, 30, 30, 15, 15};
        for (int n = 0; n < best.length; n++) {
            CHECK.due("YEAR up to " + n, x.when(0, n, 0), best[n]);
            CHECK.due("BID up to " + n, x.when(0, n, 1), bid[n]);
        }
        CHECK.due("YEAR up to 40", x.when(0, 40, 0), 4);
        x.go(1);
        for (int n = 0; n < 5; n++) {
            CHECK.due("a YEAR later, up to " + n, x.when(0, n, 0), n == 0 ? 0 : n < 3 ? 1 : 3);
            CHECK.due("a YEAR later, BID up to " + n, x.when(0, n, 1), bid[n + 1]);
        }
        // BOUND is enough behind YEAR 39 alone
        String late = "house a 0 0 9 20 9;law death (year = 39) * 100;law will 9;law raise 0;";
        CHECK.due("ahead of YEAR 40", Check.of(late).when(0, 40, 0), 40);
        CHECK.due("not ahead of YEAR 39", Check.of(late).when(0, 39, 0), -2);
    }

    @Says(promise = 0,
            sentence = "(by nod() ahead of that YEAR, as it goes till then; none at which that is refused),")
    static void whenANodIsRefused() {
        // it LEADS: nods ahead of YEARS 1 .. are refused; the one ahead of YEAR 0 keeps it from RAISING
        CHECK.due("it LEADS", Check.of("house a 9 0 1 20 0;law death 0;").when(0, 40, 0), 0);
        BidLines x = Check.of("house a 9 0 1 20 0;law death 0;calls 20;");
        x.nod(0);
        CHECK.due("it LEADS now", x.when(0, 9, 0), -2);
        // BID and STEP are more than BOUND until a will gives more, behind YEAR 3
        x = Check.of("house a 5 0 6 20 1;law death (year = 3) * 100;law will 6;law raise 0;");
        CHECK.due("not yet", x.when(0, 3, 0), -2);
        CHECK.due("then", x.when(0, 4, 0), 4);
        CHECK.due("at", x.when(0, 4, 1), 6);
        // as it goes nobody DIES of 49 in YEAR 0, where the first number is 0, and of 50 it does in YEAR 1
        x = Check.of("house a 5 0 6 20 1;law death (year = 0) * 49 + (year = 1) * 50;law will 6;law raise 0;");
        CHECK.due("as it goes", x.when(0, 9, 0), 2);
        // it isn't IN behind YEAR 0
        x = Check.of("house a 5 0 5 20 0;law death 100;law raise 0;");
        CHECK.due("while it is IN", x.when(0, 9, 0), 0);
        x = Check.of("house a 5 0 6 20 0;law death 100;law raise 0;");
        CHECK.due("not any more", x.when(0, 9, 0), -2);
        // the table has FALLEN to b behind YEAR 2
        x = Check.of("house a 5 0 5 20 0;house b 4 0 4 20 0;law death 0;calls 1;law raise bound = 4;");
        CHECK.due("ahead of it", x.when(0, 40, 0), 0);
        x.will(0, 4);
        x.go(3);
        x.will(0, 99);
        CHECK.due("FALLEN", x.when(0, 40, 0), -2);
    }

    @Says(promise = 0, sentence = "so that the table FALLS to it within 120 YEARS from now")
    static void whenWithin120Years() {
        // both RAISE in turn up to a YEAR, b is last; 20 calls later it FALLS to b; a nod ahead of YEAR 1 costs nothing
        String both = "house a 999 0 1 20 0;house b 999 0 1 20 0;calls 20;law death 0;law raise year <= ";
        CHECK.due("120 YEARS", Check.of(both + "99;").when(1, 40, 0), 1);
        CHECK.due("at 100", Check.of(both + "99;").when(1, 40, 1), 100);
        CHECK.due("122 YEARS", Check.of(both + "101;").when(1, 40, 0), -2);
        BidLines x = Check.of(both + "101;");
        x.go(2);
        CHECK.due("120 YEARS from now", x.when(1, 40, 0), 1);
        CHECK.due("at 102", x.when(1, 40, 1), 102);
        // a is last, 121 YEARS from now, with one call less 120; a nod at once is in place of its first RAISE
        String odd = both + "100;";
        CHECK.due("121 YEARS", Check.of(odd).when(0, 40, 0), -2);
        CHECK.due("120 YEARS", Check.of(odd.replace("calls 20", "calls 19")).when(0, 40, 0), 0);
    }

    @Says(promise = 0, sentence = "at the least BID, the first of several.")
    static void whenAtTheLeastBid() {
        BidLines x = Check.of(NODS);
        CHECK.due("35 of YEARS 0 and 1", x.when(0, 1, 0), 0);
        CHECK.due("30 of YEARS 2 and 3", x.when(0, 3, 0), 2);
        CHECK.due("15 of YEAR 4", x.when(0, 40, 0), 4);
        CHECK.due("15", x.when(0, 40, 1), 15);
        // b nods to 10 and has it: a RAISES at more than 14 alone
        CHECK.due("b", x.when(1, 40, 0), 0);
        CHECK.due("b at 10", x.when(1, 40, 1), 10);
    }

    @Says(promise = 0,
            sentence = "MATCH of a HOUSE: the other one that is IN, of the least BOUND, the first of several,")
    static void matchOfTheLeastBound() {
        // a needs 16, and each of the others is enough
        String text = "house a 10 0 1 20 1;house b 20 0 10 20 1;house c 20 0 10 20 1;open 15;law death 0;calls 1;";
        CHECK.due("the first of two", Check.of(text).match(0), 1);
        CHECK.due("the least", Check.of(text + "house d 19 0 10 20 1;").match(0), 3);
        CHECK.due("the first of two, told ahead of it", Check.of("house d 19 0 10 20 1;house e 19 0 10 20 1;" + text)
                .match(2), 0);
        CHECK.due("not it itself", Check.of("house a 99 0 1 20 1;law death 0;").match(0), -2);
        BidLines x = Check.of(text);
        x.marry(2, 1);
        x.will(2, 20);
        CHECK.due("b isn't IN", x.match(0), 2);
        x.marry(0, 2);
        CHECK.due("there is no other", x.match(0), -2);
        // the least that does: d is less, but too little
        CHECK.due("d is too little", Check.of(text + "house d 5 0 10 20 1;").match(0), 1);
        // BOUNDS are those of now, not those that wills leave on the way: c has 5 then
        CHECK.due("20 now, not 33", Check.of("house a 10 0 1 20 9;house b 20 0 10 20 9;house c 33 0 10 20 9;open 15;"
                + "calls 1;law death (bound = 33) * 100;law will 5;").match(0), 1);
        // a alone RAISES; c is too little, and while it is tried b has 900
        CHECK.due("20 now, not 25", Check.of("house a 10 1 1 20 9;house b 20 0 10 20 9;house c 2 0 10 20 9;"
                + "house d 25 0 10 20 9;open 15;calls 1;law raise worth;law death (bound = 20) * 100;law will 900;").match(0), 1);
    }

    @Says(promise = 0,
            sentence = "which, married into it now, makes the table FALL to it within 120 YEARS as it goes.")
    static void matchWithin120Years() {
        String late = "house b 0 0 1 20 0;" + LATE;
        CHECK.due("120 YEARS", Check.of(late + "118;").match(1), 0);
        CHECK.due("121 YEARS", Check.of(late + "119;").match(1), -2);
        // what the other one LEADS it LEADS then
        BidLines x = Check.of("house a 1 0 9 20 0;house b 9 0 9 20 0;law death 0;");
        CHECK.due("b LEADS", x.nod(1), 9);
        CHECK.due("b", x.match(0), 1);
        x.go(3);
        CHECK.due("FALLEN", x.count(7), 1);
        CHECK.due("to b, and with b to it", x.match(0), 1);
        CHECK.due("with a it is b's still", x.match(1), 0);
        // HEIRS of the other one come too
        x = Check.of("house a 9 0 9 20 0;house b 0 0 9 20 1;law death (year = 0) * 100;");
        CHECK.due("it would be ENDED without", x.letGo(0), -2);
        CHECK.due("with the heir of b", x.match(0), 1);
    }

    @Says(promise = 0,
            sentence = "HUSH for a HOUSE and n YEARS: the fewest others that are IN (bits, of several the least)")
    static void hushOfTheFewest() {
        // d may go to 11: c alone, or a and b, must be still
        BidLines x = Check.of("house a 99 0 5 20 0;house b 99 0 5 20 0;house c 99 0 8 20 0;house d 11 0 1 20 0;law death 0;");
        CHECK.due("fewer, not the least bits", x.hush(3, 4), 4);
        // d may go to 6: a or b must be still
        x = Check.of("house a 99 0 5 20 0;house b 99 0 5 20 0;house d 6 0 1 20 0;law death 0;");
        CHECK.due("of two the least bits", x.hush(2, 3), 1);
        CHECK.due("none of them", x.hush(1, 2), 0);
        x = Check.of("house a 99 0 5 20 0;house b 99 0 5 20 0;house d 5 0 1 20 0;law death 0;");
        CHECK.due("both", x.hush(2, 3), 3);
        x.marry(1, 0);
        CHECK.due("those that are IN", x.hush(2, 3), 2);
        // all of six
        x = Check.of("house a 9 0 9 20 0;house b 9 0 9 20 0;house c 9 0 9 20 0;house d 9 0 9 20 0;house e 9 0 9 20 0;"
                + "house f 9 0 9 20 0;law death 0;calls 20;");
        CHECK.due("five others", x.hush(5, 6), 31);
        CHECK.due("none but a can be first", x.hush(0, 6), 0);
    }

    @Says(promise = 0, sentence = "who, never RAISING in these YEARS as it goes, let it LEAD behind them.")
    static void hushBehindTheseYears() {
        BidLines x = Check.of("house a 99 0 5 20 0;house b 99 0 5 20 0;law death 0;");
        CHECK.due("a behind 1 YEAR", x.hush(0, 1), 0);
        CHECK.due("a behind 2 YEARS", x.hush(0, 2), 2);
        CHECK.due("a behind 3 YEARS", x.hush(0, 3), 0);
        CHECK.due("b behind 1 YEAR", x.hush(1, 1), -2);
        CHECK.due("b behind 2 YEARS", x.hush(1, 2), 0);
        // it itself need not RAISE: it LEADS now
        x.will(1, 0);
        x.nod(0);
        CHECK.due("a LEADS", x.hush(0, 40), 0);
        // one that is ENDED on the way LEADS still
        x = Check.of("house a 9 0 5 20 0;house b 0 0 1 20 0;law death year * 100;");
        CHECK.due("a is ENDED in YEAR 1", x.hush(0, 2), 0);
    }

    // ---- STILL, MOST

    @Says(promise = 0, sentence = "STILL: HOUSES (bits) that are IN and may go to BID and STEP.")
    static void still() {
        BidLines x = Check.of("house a 24 0 5 20 0;house b 25 0 5 20 0;house c 26 0 5 20 0;house d 99 0 5 20 0;open 20;");
        CHECK.due("25 and more", x.still(), 14);
        x.marry(1, 3);
        CHECK.due("d isn't IN", x.still(), 6);
        x.nod(1);
        CHECK.due("b LEADS, and may go to 30", x.still(), 2);
        CHECK.due("all six", Check.of("house a 1 0 1 20 0;house b 1 0 1 20 0;house c 1 0 1 20 0;house d 1 0 1 20 0;"
                + "house e 1 0 1 20 0;house f 1 0 1 20 0;").still(), 63);
    }

    @Says(promise = 0, sentence = "MOST: how many times the BID is RAISED yet, if all that are IN are asked by numbers "
            + "again and again from 0 on,")
    static void mostFrom0On() {
        // a 1, b 2; b first would leave nothing for a
        String text = "house a 1 0 1 20 0;house b 9 0 1 20 0;law raise 0;law death 0;";
        BidLines x = Check.of(text);
        CHECK.due("YEAR 0", x.most(), 2);
        x.go(1);
        CHECK.due("YEAR 1, the TURN of b", x.most(), 2);
        x = Check.of(text + "house c 99 0 1 20 0;");
        x.marry(1, 0);
        // b 1, c 2, b 3, c 4, b 5, c 6, b 7, c 8, b 9, c 10
        CHECK.due("a isn't IN", x.most(), 10);
        // a 5, b 8, c 9, a 14, b 17, c 18, then a may not, b 21, c 22
        CHECK.due("again and again", Check.of("house a 14 0 5 20 0;house b 21 0 3 20 0;house c 22 0 1 20 0;").most(), 8);
    }

    @Says(promise = 0, sentence = "each RAISES, if it doesn't LEAD and BID and STEP are no more than BOUND")
    static void mostUpToBound() {
        CHECK.due("alone", Check.of("house a 50 0 1 20 0;").most(), 1);
        CHECK.due("as much as BOUND", Check.of("house a 5 0 5 20 0;").most(), 1);
        CHECK.due("more than BOUND", Check.of("house a 4 0 5 20 0;").most(), 0);
        BidLines x = Check.of("house a 5 0 1 20 0;house b 5 0 1 20 0;");
        CHECK.due("five", x.most(), 5);
        x.nod(0);
        CHECK.due("four more: b first, as a LEADS", x.most(), 4);
        x.will(0, 9999);
        x.will(1, 9999);
        CHECK.due("9998 more", x.most(), 9998);
    }

    @Says(promise = 0, sentence = "(nobody DIES, whatever E of raise),")
    static void mostWhateverTheLaws() {
        CHECK.due("five", Check.of("house a 5 0 1 20 0;house b 5 0 1 20 0;law raise 0;law death 100;law will 0;").most(), 5);
    }

    @Says(promise = 0, sentence = "until nobody does in a row of all")
    static void mostUntilNobodyDoes() {
        // a 5, b can't, c 6, then a can't, b can't, c LEADS
        CHECK.due("one that can't in between", Check.of("house a 5 0 5 20 0;house b 5 0 1 20 0;house c 6 0 1 20 0;").most(), 2);
        // a 1, b 2, c 3, d 4, e 5, f 6, a 7, .. f 12: all of six in two rows
        StringBuilder six = new StringBuilder();
        for (char name = 'a'; name <= 'f'; name++) {
            six.append("house ").append(name).append(" 12 0 1 20 0;");
        }
        CHECK.due("two rows", Check.of(six.toString()).most(), 12);
        CHECK.due("no HOUSES", new BidLines().most(), 0);
    }

    @Says(promise = 0, sentence = "(0, if it has FALLEN).")
    static void mostOfAFallenTable() {
        BidLines x = Check.of("house a 9 0 1 20 0;house b 9 0 1 20 0;law death 0;calls 2;law raise year = 0;");
        x.go(2);
        CHECK.due("CALLED once", x.most(), 8);
        x.go(1);
        CHECK.due("FALLEN", x.most(), 0);
    }

    // ---- the table, LIVES, SHARES

    @Says(promise = 0, sentence = "SAME: how many PARTS are of the first table;")
    static void same() {
        BidLines x = Check.of("part a 1 0;part b 2 0;part c 3 0;part d 9 9;part e 99 0;part f 99 96;");
        int[] due = {6, 4, 3, 1, 1};
        for (int year = 0; year < due.length; year++) {
            CHECK.due("YEAR " + year, x.same(), due[year]);
            x.go(1);
        }
    }

    @Says(promise = 0,
            sentence = "NONE LEFT: in how many YEARS, 999 at most, none is of it (0: now; without PARTS, too).")
    static void noneLeft() {
        BidLines x = Check.of("part a 3 0;part b 5 1;part c 9 99;");
        int[] due = {4, 3, 2, 1, 0, 0};
        for (int year = 0; year < due.length; year++) {
            CHECK.due("YEAR " + year, x.noneLeft(), due[year]);
            x.go(1);
        }
        CHECK.due("99", Check.of("part a 99 0;").noneLeft(), 99);
        CHECK.due("told older", Check.of("part a 9 99;").noneLeft(), 1);
        CHECK.due("without PARTS", Check.of("house a 0 0 1 20 0;").noneLeft(), 0);
    }

    private static void dueLives(String text, int n, long above, long below) {
        CHECK.due(text + " lives(0, " + n + ", 0)", Check.of(text).lives(0, n, 0), above);
        CHECK.due(text + " lives(0, " + n + ", 1)", Check.of(text).lives(0, n, 1), below);
    }

    @Says(promise = 0, sentence = "LIVES of a HOUSE for n YEARS: how likely its head lives through them, by E of death "
            + "with AGE 1 more each YEAR (all else as now), as a fraction.")
    static void lives() {
        // AGE 51 and 52: 89 and 88 of 100
        dueLives("house a 0 0 1 50 0;", 2, 979, 1250);
        dueLives("house a 0 0 1 50 0;", 0, 1, 1);
        // AGE 98, 99, 99: 42, 41, 41 of 100
        dueLives("house a 0 0 1 97 0;", 3, 35301, 500000);
        dueLives("house a 0 0 1 20 0;law death (age = 22) * 50;", 1, 1, 1);
        dueLives("house a 0 0 1 20 0;law death (age = 22) * 50;", 2, 1, 2);
        dueLives("house a 0 0 1 20 0;law death (age = 22) * 50;", 6, 1, 2);
        dueLives("house a 0 0 1 20 0;law death year * 100;", 6, 1, 1);
        dueLives("house a 9 0 1 20 0;law death bid * 100 + called * 100;", 6, 1, 1);
        dueLives("house a 0 0 1 20 0;law death 100;", 1, 0, 1);
        dueLives("house a 0 0 1 20 0;law death 100;", 6, 0, 1);
        dueLives("house a 0 0 1 20 0;law death 50;", 6, 1, 64);
        dueLives("house a 0 0 1 20 0;law death 1;", 6, 941480149401L, 1000000000000L);
        dueLives("house a 0 0 1 20 0;law death 99;", 6, 1, 1000000000000L);
    }

    @Says(promise = 0, sentence = "SHARES of two HOUSES that marry: ALONE each has WORTH less BID (0 at least), "
            + "if BOUND is BID and STEP at least, else 0;")
    static void sharesAlone() {
        // b may go nowhere, and is worth nothing: a has what is TOGETHER, by half if it can't ALONE
        String two = "house b 50 0 1 20 0;open 10;house a ";
        CHECK.due("BOUND is BID and STEP", Check.of(two + "15 90 5 20 0;").shares(1, 0), 80);
        CHECK.due("one less: half of it", Check.of(two + "14 90 5 20 0;").shares(1, 0), 40);
        CHECK.due("for b nothing", Check.of(two + "15 90 5 20 0;").shares(0, 1), 0);
        CHECK.due("for b half", Check.of(two + "14 90 5 20 0;").shares(0, 1), 40);
        CHECK.due("WORTH 1 more", Check.of(two + "99 11 5 20 0;").shares(1, 0), 1);
        CHECK.due("WORTH as much", Check.of(two + "99 10 5 20 0;").shares(1, 0), 0);
        CHECK.due("WORTH less", Check.of(two + "99 1 5 20 0;").shares(1, 0), 0);
    }

    @Says(promise = 0, sentence = "TOGETHER they have the greater WORTH less BID (0 at least), if BOUNDS in sum are BID "
            + "and the lesser STEP at least, else 0:")
    static void sharesTogether() {
        // 5 and 6: 11
        String poor = "house a 5 100 9 20 0;house b 6 60 8 20 0;open ";
        CHECK.due("3 and 8: half of 97", Check.of(poor + "3;").shares(0, 1), 48);
        CHECK.due("4 and 8: nothing", Check.of(poor + "4;").shares(0, 1), 0);
        CHECK.due("b and a: half of 97", Check.of(poor + "3;").shares(1, 0), 48);
        CHECK.due("BID beyond both", Check.of("house a 99 5 1 20 0;house b 99 3 1 20 0;open 9;").shares(0, 1), 0);
        CHECK.due("the greater one", Check.of("house a 0 8 1 20 0;house b 1 90 9 20 0;").shares(0, 1), 45);
    }

    @Says(promise = 0, sentence = "the first one has what it has ALONE, and half, cut, of what TOGETHER is more than both "
            + "ALONE (below 0, too).")
    static void sharesByHalf() {
        // 180 and 130 ALONE, 180 TOGETHER
        BidLines x = Check.of("house a 100 200 10 30 1;house b 95 150 20 50 0;open 20;");
        CHECK.due("180 less 65", x.shares(0, 1), 115);
        CHECK.due("130 less 65", x.shares(1, 0), 65);
        // 4 and 3 ALONE, 4 TOGETHER: 3 less, half of it cut is 1
        x = Check.of("house a 99 4 1 20 0;house b 99 3 1 20 0;");
        CHECK.due("4 less 1", x.shares(0, 1), 3);
        CHECK.due("3 less 1", x.shares(1, 0), 2);
        // 0 and 2 ALONE, 7 TOGETHER: half of 5 is 2
        x = Check.of("house a 1 7 9 20 0;house b 9 2 9 20 0;");
        CHECK.due("0 and 2", x.shares(0, 1), 2);
        CHECK.due("2 and 2", x.shares(1, 0), 4);
        // 1 and 0 ALONE, 1 TOGETHER: nothing more
        x = Check.of("house a 9 1 9 20 0;house b 0 0 9 20 0;");
        CHECK.due("1", x.shares(0, 1), 1);
        CHECK.due("0", x.shares(1, 0), 0);
    }

    // ---- TRIED

    @Says(promise = 0, sentence = "TRIED for n YEARS as it goes: the BID then: 0 nobody DIES,")
    static void triedDeathless() {
        BidLines x = Check.of(DYING);
        CHECK.due("as it goes", x.ahead(99, 0), 5);
        int[] bid = {0, 5, 10, 15, 20};
        for (int n = 0; n < bid.length; n++) {
            CHECK.due("behind " + n, x.tried(0, 0, n), bid[n]);
        }
        CHECK.due("behind 99", x.tried(0, 0, 99), 50);
        // heads grow old all the same
        CHECK.due("AGE 99", Check.of("house a 9 0 1 20 0;law death 100;law raise age = 99;").tried(0, 0, 99), 1);
    }

    @Says(promise = 0, sentence = "1 nobody is ENDED (who DIES without HEIRS has one),")
    static void triedEndless() {
        CHECK.due("50", Check.of(DYING).tried(1, 0, 99), 50);
        // BOUND is E of will, of which none is left
        CHECK.due("20", Check.of(DYING + "law will heirs * 100 + 20;").tried(1, 0, 99), 20);
        CHECK.due("7: none may RAISE", Check.of(DYING + "law will heirs * 100 + 7;").tried(1, 0, 99), 5);
        // with HEIRS there is one less: 1, 0, 0
        CHECK.due("with one", Check.of("house a 50 0 5 20 1;law death 100;law raise heirs = 0 and year = 2;").tried(1, 0, 99), 5);
        CHECK.due("with nine", Check.of("house a 50 0 5 20 9;law death 100;law raise heirs = 8;").tried(1, 0, 99), 5);
    }

    @Says(promise = 0, sentence = "2 HOUSE i never RAISES,")
    static void triedHushed() {
        BidLines x = Check.of(Check.DUEL);
        CHECK.due("without a b bids 5", x.tried(2, 0, 99), 5);
        CHECK.due("without b a bids 10", x.tried(2, 1, 99), 10);
        CHECK.due("a has the TURN in YEAR 0 still", x.tried(2, 0, 1), 0);
        // what it LEADS it LEADS
        x.nod(0);
        CHECK.due("a LEADS at 10, b bids 15", x.tried(2, 0, 99), 15);
    }

    @Says(promise = 0, sentence = "3 all have STEP 1,")
    static void triedBySmallSteps() {
        BidLines x = Check.of(Check.DUEL);
        CHECK.due("behind 4", x.tried(3, 0, 4), 4);
        CHECK.due("a 25, b may not go to 26", x.tried(3, 0, 99), 25);
        CHECK.due("a STEP of 99 is 1", Check.of("house a 1 0 99 20 0;law death 0;").tried(3, 0, 1), 1);
        CHECK.due("BID and 1", Check.of("house a 1 0 99 20 0;open 1;law death 0;").tried(3, 0, 1), 1);
    }

    @Says(promise = 0, sentence = "4 BOUNDS are 999 now.")
    static void triedByHighBounds() {
        CHECK.due("up to 999", Check.of("house a 0 0 9 20 0;open 990;law death 0;").tried(4, 0, 1), 999);
        CHECK.due("not 1000", Check.of("house a 0 0 10 20 0;open 990;law death 0;").tried(4, 0, 1), 990);
        BidLines x = Check.of("house a 0 0 9 20 0;open 991;law death 0;");
        x.will(0, 9999);
        CHECK.due("less than its BOUND", x.tried(4, 0, 1), 991);
        CHECK.due("all of them", Check.of("house a 0 0 9 20 0;house b 0 0 9 20 0;house c 0 0 9 20 0;house d 0 0 9 20 0;"
                + "house e 0 0 9 20 0;house f 0 0 9 20 0;law death 0;").tried(4, 0, 12), 108);
        CHECK.due("now: wills change them", Check.of("house a 0 0 9 20 9;law death 100;law will 8;").tried(4, 0, 9), 0);
    }
}
