/** Promises 14 to 25: what comes, how the table is to be had, what is shared; each sentence. */
public final class Promises14To25Test {
    private static final Check CHECK = new Check();
    private static final int[] NO_WHAT = {-1, -2, 4, 32, Check.LEAST, Check.GREATEST};

    public static void main(String[] args) throws IllegalAccessException {
        Sentences.run(Promises14To25Test.class, CHECK);
    }

    /** Two that are IN and one, the last, that isn't. */
    private static BidLines withOneEnded() {
        BidLines x = Check.of(Check.DUEL + "house c 0 0 1 20 0;");
        x.marry(0, 2);
        return x;
    }

    // ---- 14, 15: ahead, falls

    @Says(promise = 14, sentence = "AHEAD (n 0 .. 99),")
    static void p14Ahead() {
        BidLines x = Check.of(Check.DUEL);
        String stands = Check.picture(x);
        CHECK.due("0", x.ahead(0, 0), 0);
        CHECK.due("1", x.ahead(1, 0), 10);
        CHECK.due("98", x.ahead(98, 0), 25);
        CHECK.due("99", x.ahead(99, 0), 25);
        CHECK.dueSame("nothing changes", Check.picture(x), stands);
        // what comes in the 99th YEAR comes, what comes in the 100th doesn't
        String late = "house a 9 0 1 20 0;law death 0;law raise year = ";
        CHECK.due("YEAR 98", Check.of(late + "98;").ahead(99, 0), 1);
        CHECK.due("YEAR 99", Check.of(late + "99;").ahead(99, 0), 0);
    }

    @Says(promise = 14, sentence = "what 0 BID, 1 who LEADS (-2: nobody), 2 IN, 3 DIED.")
    static void p14What() {
        BidLines x = Check.of(Check.DUEL);
        CHECK.due("nobody", x.ahead(0, 1), -2);
        CHECK.due("nobody in 99", Check.of("house a 0 0 1 20 0;").ahead(99, 1), -2);
        CHECK.due("nobody of none", new BidLines().ahead(99, 1), -2);
        CHECK.due("a", x.ahead(1, 1), 0);
        CHECK.due("b", x.ahead(2, 1), 1);
        CHECK.due("BID", x.ahead(2, 0), 15);
        CHECK.due("IN", x.ahead(2, 2), 2);
        CHECK.due("DIED", x.ahead(2, 3), 0);
        x = Check.of("house a 0 0 1 20 1;house b 0 0 1 20 0;law death 100;");
        CHECK.due("IN now", x.ahead(0, 2), 2);
        CHECK.due("IN in 1", x.ahead(1, 2), 1);
        CHECK.due("IN in 2", x.ahead(2, 2), 0);
        CHECK.due("DIED in 1", x.ahead(1, 3), 2);
        CHECK.due("DIED in 2", x.ahead(2, 3), 3);
        CHECK.due("DIED in 99", x.ahead(99, 3), 3);
    }

    @Says(promise = 14, sentence = "NONE: no such ones.")
    static void p14NoSuchOnes() {
        BidLines x = Check.of(Check.DUEL);
        for (int n : new int[] {-1, 100, 101, Check.LEAST, Check.GREATEST}) {
            for (int what = 0; what < 4; what++) {
                CHECK.due("ahead(" + n + ", " + what + ")", x.ahead(n, what), -1);
            }
        }
        for (int what : NO_WHAT) {
            CHECK.due("ahead(1, " + what + ")", x.ahead(1, what), -1);
        }
    }

    @Says(promise = 15, sentence = "FALLS, what 0: in how many YEARS, 1: to whom, 2: at which BID.")
    static void p15Falls() {
        BidLines x = Check.of(Check.DUEL);
        int[] due = {6, 0, 25};
        for (int what = 0; what < 3; what++) {
            CHECK.due("falls(" + what + ")", x.falls(what), due[what]);
        }
        x.will(1, 30);
        // b 30, then a may not: YEAR 3 and three calls
        int[] then = {7, 1, 30};
        for (int what = 0; what < 3; what++) {
            CHECK.due("falls(" + what + ")", x.falls(what), then[what]);
        }
        x.go(7);
        int[] fallen = {0, 1, 30};
        for (int what = 0; what < 3; what++) {
            CHECK.due("it has, falls(" + what + ")", x.falls(what), fallen[what]);
        }
    }

    @Says(promise = 15, sentence = "-2: not by then;")
    static void p15NotByThen() {
        String late = "house a 9 0 1 20 0;law death 0;calls 1;law raise year = ";
        int[] due = {999, 0, 1};
        for (int what = 0; what < 3; what++) {
            CHECK.due("999 YEARS, falls(" + what + ")", Check.of(late + "997;").falls(what), due[what]);
            CHECK.due("1000 YEARS, falls(" + what + ")", Check.of(late + "998;").falls(what), -2);
            CHECK.due("none may, falls(" + what + ")", Check.of("house a 0 0 1 20 0;").falls(what), -2);
            CHECK.due("none is IN, falls(" + what + ")", new BidLines().falls(what), -2);
        }
        // all are ENDED, and somebody LEADS or nobody
        CHECK.due("somebody", Check.of("house a 9 0 1 20 0;law death year * 100;").falls(0), 4);
        CHECK.due("nobody", Check.of("house a 9 0 1 20 0;law death 100;").falls(0), -2);
    }

    @Says(promise = 15, sentence = "NONE for another what.")
    static void p15AnotherWhat() {
        BidLines x = Check.of(Check.DUEL);
        for (int what : NO_WHAT) {
            CHECK.due("falls(" + what + ")", x.falls(what), -1);
        }
        CHECK.due("falls(3)", x.falls(3), -1);
        CHECK.due("not by then, falls(3)", new BidLines().falls(3), -1);
        x.go(6);
        CHECK.due("it has, falls(3)", x.falls(3), -1);
    }

    // ---- 16 to 20: letGo, outbid, against, still, most

    @Says(promise = 16, sentence = "LET GO;")
    static void p16LetGo() {
        BidLines x = Check.of(Check.DUEL);
        String stands = Check.picture(x);
        CHECK.due("a has it", x.letGo(0), 0);
        CHECK.due("b must go to 30", x.letGo(1), 5);
        CHECK.dueSame("nothing changes", Check.picture(x), stands);
        x.will(1, 29);
        CHECK.due("1 more", x.letGo(1), 1);
        x.will(1, 30);
        CHECK.due("nothing more", x.letGo(1), 0);
        // from 9999 on as well
        x = Check.of("house a 0 0 1 20 0;law death 0;law raise bound > 9999;");
        x.will(0, 9999);
        CHECK.due("10000", x.letGo(0), 1);
    }

    @Says(promise = 16, sentence = "-2: by none;")
    static void p16ByNone() {
        CHECK.due("300 more", Check.of("house a 0 0 1 20 0;law death 0;open 299;").letGo(0), 300);
        CHECK.due("301 more", Check.of("house a 0 0 1 20 0;law death 0;open 300;").letGo(0), -2);
        CHECK.due("a law", Check.of("house a 9 0 1 20 0;law raise 0;").letGo(0), -2);
        CHECK.due("it is ENDED first", Check.of("house a 9 0 1 20 0;law death 100;").letGo(0), -2);
    }

    @Says(promise = 16, sentence = "NONE: no such HOUSE, not IN.")
    static void p16NoSuchHouse() {
        BidLines x = Check.of(Check.DUEL);
        for (int house : Check.NO_HOUSE) {
            CHECK.due("letGo(" + house + ")", x.letGo(house), -1);
        }
        x.marry(0, 1);
        CHECK.due("not IN", x.letGo(1), -1);
        CHECK.due("no HOUSES", new BidLines().letGo(0), -1);
    }

    @Says(promise = 17, sentence = "OUTBID (bits);")
    static void p17Outbid() {
        StringBuilder text = new StringBuilder();
        for (char name = 'a'; name <= 'f'; name++) {
            text.append("house ").append(name).append(" 5 0 1 20 0;");
        }
        for (int house = 0; house < 6; house++) {
            BidLines x = Check.of(text.toString());
            x.will(house, 6);
            CHECK.due("the one of 6", x.outbid(), 1 << house);
        }
        CHECK.due("two of 5", Check.of(text.toString()).outbid(), 3);
        CHECK.due("three of 5", Check.of(text + "open 10;").outbid(), 7);
        CHECK.due("six of 5", Check.of(text + "open 29;").outbid(), 63);
    }

    @Says(promise = 17, sentence = "-2: by none.")
    static void p17ByNone() {
        CHECK.due("no HOUSES", new BidLines().outbid(), -2);
        CHECK.due("it may go to BID only", Check.of("house a 9 0 1 20 0;open 9;").outbid(), -2);
        CHECK.due("it may go further", Check.of("house a 9 0 1 20 0;open 8;").outbid(), 1);
        BidLines x = Check.of("house a 9 0 1 20 0;law death 100;law raise 0;");
        x.go(1);
        CHECK.due("none is IN", x.outbid(), -2);
    }

    @Says(promise = 18, sentence = "AGAINST, what 0: who (0 the first one, 1 the second one), 1: at which BID.")
    static void p18Against() {
        BidLines x = Check.of("house c 0 0 1 20 0;house a 100 200 10 30 1;house b 95 150 20 50 0;open 20;");
        String stands = Check.picture(x);
        CHECK.due("the first one, a", x.against(1, 2, 0), 0);
        CHECK.due("at", x.against(1, 2, 1), 90);
        CHECK.due("the second one, a", x.against(2, 1, 0), 1);
        CHECK.due("at", x.against(2, 1, 1), 80);
        CHECK.due("the first one, a, as c stops", x.against(1, 0, 0), 0);
        CHECK.due("at", x.against(1, 0, 1), 30);
        CHECK.due("the second one, a, as c stops", x.against(0, 1, 0), 1);
        CHECK.due("at the BID", x.against(0, 1, 1), 20);
        CHECK.dueSame("nothing changes", Check.picture(x), stands);
    }

    @Says(promise = 18, sentence = "NONE: no such ones, alike, not both IN.")
    static void p18NoSuchOnes() {
        BidLines x = withOneEnded();
        for (int what = 0; what < 2; what++) {
            for (int house : Check.NO_HOUSE) {
                CHECK.due("against(0, " + house + ", " + what + ")", x.against(0, house, what), -1);
                CHECK.due("against(" + house + ", 0, " + what + ")", x.against(house, 0, what), -1);
            }
            for (int house = 0; house < 3; house++) {
                CHECK.due("alike " + house, x.against(house, house, what), -1);
                CHECK.due("the second one isn't IN", x.against(house, 2, what), -1);
                CHECK.due("the first one isn't IN", x.against(2, house, what), -1);
            }
        }
        for (int what : NO_WHAT) {
            CHECK.due("against(0, 1, " + what + ")", x.against(0, 1, what), -1);
        }
        CHECK.due("against(0, 1, 2)", x.against(0, 1, 2), -1);
    }

    @Says(promise = 19, sentence = "STILL (bits).")
    static void p19Still() {
        CHECK.due("no HOUSES", new BidLines().still(), 0);
        BidLines x = Check.of("house a 24 0 5 20 0;house b 25 0 5 20 0;house c 26 0 5 20 0;open 20;");
        CHECK.due("b, c", x.still(), 6);
        x.will(0, 25);
        CHECK.due("a, b, c", x.still(), 7);
        x.will(1, 24);
        CHECK.due("a, c", x.still(), 5);
        x.marry(0, 2);
        CHECK.due("a", x.still(), 1);
        x.will(0, 24);
        CHECK.due("none", x.still(), 0);
    }

    @Says(promise = 20, sentence = "MOST.")
    static void p20Most() {
        BidLines x = Check.of(Check.DUEL);
        String stands = Check.picture(x);
        CHECK.due("10, 15, 25", x.most(), 3);
        CHECK.dueSame("nothing changes", Check.picture(x), stands);
        x.go(1);
        CHECK.due("15, 25", x.most(), 2);
        x.go(5);
        CHECK.due("FALLEN", x.most(), 0);
        x.will(0, 999);
        x.will(1, 999);
        CHECK.due("FALLEN, whatever they may", x.most(), 0);
    }

    // ---- 21 to 25: same, noneLeft, lives, shares, turn

    @Says(promise = 21, sentence = "SAME.")
    static void p21Same() {
        CHECK.due("no PARTS", new BidLines().same(), 0);
        BidLines x = Check.of("part a 2 0;part b 1 0;part c 3 3;");
        CHECK.due("at first", x.same(), 3);
        x.go(1);
        CHECK.due("a", x.same(), 1);
        x.go(1);
        CHECK.due("none", x.same(), 0);
        x.go(99);
        CHECK.due("none ever", x.same(), 0);
    }

    @Says(promise = 22, sentence = "NONE LEFT;")
    static void p22NoneLeft() {
        CHECK.due("no PARTS", new BidLines().noneLeft(), 0);
        BidLines x = Check.of("part a 2 0;part b 1 0;part c 3 3;");
        for (int left : new int[] {2, 1, 0, 0}) {
            CHECK.due("in", x.noneLeft(), left);
            x.go(1);
        }
    }

    @Says(promise = 22, sentence = "-2: not by then.")
    static void p22NotByThen() {
        // no PART LASTS more than 99 YEARS: it is never so
        CHECK.due("the longest", Check.of("part a 99 0;part b 99 1;").noneLeft(), 99);
        BidLines x = Check.of("part a 99 0;");
        for (int year = 0; year < 105; year++) {
            CHECK.due("YEAR " + year, x.noneLeft(), Math.max(0, 99 - year));
            x.go(1);
        }
    }

    @Says(promise = 23,
            sentence = "LIVES (n 0 .. 6) in least terms, what 0: the number above, 1: the one below.")
    static void p23Lives() {
        String half = "house a 0 0 1 20 0;law death 50;";
        for (int n = 0; n <= 6; n++) {
            CHECK.due("above, " + n, Check.of(half).lives(0, n, 0), 1);
            CHECK.due("below, " + n, Check.of(half).lives(0, n, 1), 1 << n);
        }
        // 100 less E of 100, in least terms
        for (int e = 0; e <= 100; e++) {
            BidLines x = Check.of("house a 0 0 1 20 0;law death " + e + ";");
            int common = java.math.BigInteger.valueOf(100 - e).gcd(java.math.BigInteger.valueOf(100)).intValue();
            CHECK.due("above, E " + e, x.lives(0, 1, 0), (100 - e) / common);
            CHECK.due("below, E " + e, x.lives(0, 1, 1), 100 / common);
        }
        BidLines x = Check.of("house a 0 0 1 20 0;law death 1;");
        CHECK.due("99 to the 6", x.lives(0, 6, 0), 941480149401L);
        CHECK.due("100 to the 6", x.lives(0, 6, 1), 1000000000000L);
        CHECK.due("AGE stays", x.house(0, 3), 20);
    }

    @Says(promise = 23, sentence = "NONE: no such ones, not IN.")
    static void p23NoSuchOnes() {
        BidLines x = Check.of(Check.DUEL);
        for (int what = 0; what < 2; what++) {
            for (int house : Check.NO_HOUSE) {
                CHECK.due("lives(" + house + ", 1, " + what + ")", x.lives(house, 1, what), -1);
            }
            for (int n : new int[] {-1, 7, 8, Check.LEAST, Check.GREATEST}) {
                CHECK.due("lives(0, " + n + ", " + what + ")", x.lives(0, n, what), -1);
            }
        }
        for (int what : NO_WHAT) {
            CHECK.due("lives(0, 1, " + what + ")", x.lives(0, 1, what), -1);
        }
        CHECK.due("lives(0, 1, 2)", x.lives(0, 1, 2), -1);
        x.marry(0, 1);
        CHECK.due("not IN", x.lives(1, 1, 0), -1);
        CHECK.due("not IN", x.lives(1, 0, 1), -1);
    }

    @Says(promise = 24, sentence = "SHARES;")
    static void p24Shares() {
        BidLines x = Check.of("house a 100 200 10 30 1;house b 95 150 20 50 0;house c 30 500 5 89 2;open 20;");
        CHECK.due("a of b: 180 less half of 130", x.shares(0, 1), 115);
        // 480 and 180 ALONE, 480 TOGETHER
        CHECK.due("c of a: 480 less half of 180", x.shares(2, 0), 390);
        CHECK.due("a of c: 180 less half of 180", x.shares(0, 2), 90);
    }

    @Says(promise = 24, sentence = "NONE: no such HOUSES, alike, not both IN.")
    static void p24NoSuchHouses() {
        BidLines x = withOneEnded();
        for (int house : Check.NO_HOUSE) {
            CHECK.due("shares(0, " + house + ")", x.shares(0, house), -1);
            CHECK.due("shares(" + house + ", 0)", x.shares(house, 0), -1);
        }
        for (int house = 0; house < 3; house++) {
            CHECK.due("alike " + house, x.shares(house, house), -1);
            CHECK.due("the second one isn't IN", x.shares(house, 2), -1);
            CHECK.due("the first one isn't IN", x.shares(2, house), -1);
        }
        CHECK.due("both IN", x.shares(0, 1), 0);
    }

    @Says(promise = 25, sentence = "Whose TURN it is this YEAR;")
    static void p25Turn() {
        BidLines x = Check.of(Check.DUEL + "house c 0 0 1 20 0;");
        for (int year = 0; year < 7; year++) {
            CHECK.due("YEAR " + year, x.turn(), year % 3);
            x.go(1);
        }
        CHECK.due("FALLEN, and it is one's TURN still", x.turn(), 1);
        x.marry(2, 1);
        CHECK.due("b isn't IN", x.turn(), 2);
        x.go(1);
        x.marry(0, 2);
        CHECK.due("from 0 on", x.turn(), 0);
    }

    @Says(promise = 25, sentence = "-2: none is IN.")
    static void p25NoneIsIn() {
        CHECK.due("no HOUSES", new BidLines().turn(), -2);
        CHECK.due("PARTS alone", Check.of("part a 1 1;").turn(), -2);
        BidLines x = Check.of("house a 0 0 1 20 0;house b 0 0 1 20 0;law death 100;");
        CHECK.due("all IN", x.turn(), 0);
        x.go(1);
        CHECK.due("all ENDED", x.turn(), -2);
    }
}
