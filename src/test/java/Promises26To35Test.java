/** Promises 26 to 35: shares of three, what comes next, nods, matches, the table in years to come; each sentence. */
public final class Promises26To35Test {
    private static final Check CHECK = new Check();
    private static final String THREE = "house a 10 30 1 20 0;house b 10 30 1 20 0;house c 10 30 1 20 0;open 25;";
    private static final int[] NO_WHAT = {-1, -2, 2, 3, 32, Check.LEAST, Check.GREATEST};

    public static void main(String[] args) throws IllegalAccessException {
        Sentences.run(Promises26To35Test.class, CHECK);
    }

    // ---- 26 to 29: stays, nextRaise, rival, left

    @Says(promise = 26, sentence = "STAYS (1, 0; x, y -9999 .. 9999);")
    static void p26Stays() {
        // all three together HAVE 5
        BidLines x = Check.of(THREE);
        int[][] due = {{0, 0, 1}, {5, 0, 1}, {6, 0, 0}, {0, 5, 1}, {-1, 0, 0}, {0, -1, 0}, {9999, 0, 0}, {0, 9999, 0},
            {-9999, 0, 0}, {0, -9999, 0}, {9999, -9999, 0}, {-9999, 9999, 0}, {9999, 9999, 0}, {-9999, -9999, 0}};
        for (int[] d : due) {
            CHECK.due("stays(0, 1, 2, " + d[0] + ", " + d[1] + ")", x.stays(0, 1, 2, d[0], d[1]), d[2]);
        }
    }

    @Says(promise = 26, sentence = "NONE: no such HOUSES, two alike, not all IN, no such numbers.")
    static void p26NoSuchOnes() {
        BidLines x = Check.of(THREE + "house d 1 1 1 20 0;");
        x.marry(0, 3);
        for (int house : new int[] {-1, 3, 4, 5, 6, 32, 33, 34, Check.LEAST, Check.GREATEST}) {
            CHECK.due("first " + house, x.stays(house, 1, 2, 0, 0), -1);
            CHECK.due("second " + house, x.stays(0, house, 2, 0, 0), -1);
            CHECK.due("third " + house, x.stays(0, 1, house, 0, 0), -1);
        }
        for (int house = 0; house < 3; house++) {
            CHECK.due("the first two alike", x.stays(house, house, (house + 1) % 3, 0, 0), -1);
            CHECK.due("the last two alike", x.stays(house, (house + 1) % 3, (house + 1) % 3, 0, 0), -1);
            CHECK.due("the first one and the last one alike", x.stays(house, (house + 1) % 3, house, 0, 0), -1);
            CHECK.due("all alike", x.stays(house, house, house, 0, 0), -1);
        }
        for (int number : new int[] {-10000, 10000, Check.LEAST, Check.GREATEST}) {
            CHECK.due("x " + number, x.stays(0, 1, 2, number, 0), -1);
            CHECK.due("y " + number, x.stays(0, 1, 2, 0, number), -1);
        }
        CHECK.due("three that are IN", x.stays(2, 0, 1, 0, 0), 1);
    }

    @Says(promise = 27, sentence = "In how many YEARS as it goes, 99 at most (1: this one), what 0: the BID is RAISED next, "
            + "1: by whom.")
    static void p27NextRaise() {
        BidLines x = Check.of(Check.DUEL);
        String stands = Check.picture(x);
        CHECK.due("this YEAR", x.nextRaise(0), 1);
        CHECK.due("by a", x.nextRaise(1), 0);
        CHECK.dueSame("nothing changes", Check.picture(x), stands);
        x.go(1);
        CHECK.due("this YEAR", x.nextRaise(0), 1);
        CHECK.due("by b", x.nextRaise(1), 1);
        // b LEADS by its nod: it is a's TURN in YEAR 2
        x = Check.of(Check.DUEL);
        x.nod(0);
        x.go(1);
        x.nod(1);
        CHECK.due("next YEAR", x.nextRaise(0), 2);
        CHECK.due("by a", x.nextRaise(1), 0);
        String late = "house b 0 0 1 20 0;house a 9 9 1 20 0;house c 0 0 1 20 0;law death 0;law raise year = ";
        CHECK.due("98 YEARS", Check.of(late + "97;").nextRaise(0), 98);
        CHECK.due("by the second one", Check.of(late + "97;").nextRaise(1), 1);
        late = "house a 9 9 1 20 0;law death 0;law raise year = ";
        CHECK.due("99 YEARS", Check.of(late + "98;").nextRaise(0), 99);
        CHECK.due("by the only one", Check.of(late + "98;").nextRaise(1), 0);
    }

    @Says(promise = 27, sentence = "-2: not by then;")
    static void p27NotByThen() {
        for (int what = 0; what < 2; what++) {
            CHECK.due("100 YEARS", Check.of("house a 9 9 1 20 0;law death 0;law raise year = 99;").nextRaise(what), -2);
            CHECK.due("no HOUSES", new BidLines().nextRaise(what), -2);
            BidLines x = Check.of(Check.DUEL);
            x.go(3);
            CHECK.due("none may", x.nextRaise(what), -2);
            x.go(3);
            x.will(1, 999);
            CHECK.due("FALLEN", x.nextRaise(what), -2);
        }
        BidLines x = Check.of("house a 9 9 1 20 0;law death 0;law raise year = 99;");
        x.go(1);
        CHECK.due("99 YEARS from now on", x.nextRaise(0), 99);
    }

    @Says(promise = 27, sentence = "NONE for another what.")
    static void p27AnotherWhat() {
        BidLines x = Check.of(Check.DUEL);
        for (int what : NO_WHAT) {
            CHECK.due("nextRaise(" + what + ")", x.nextRaise(what), -1);
            CHECK.due("none RAISED, nextRaise(" + what + ")", new BidLines().nextRaise(what), -1);
        }
    }

    @Says(promise = 28,
            sentence = "The HOUSE that is IN, another one, with the greatest BOUND, the first of several;")
    static void p28Rival() {
        BidLines x = Check.of("house a 50 0 1 20 0;house b 70 0 1 20 0;house c 50 0 1 20 0;house d 70 0 1 20 0;");
        int[] due = {1, 3, 1, 1};
        for (int house = 0; house < 4; house++) {
            CHECK.due("of " + house, x.rival(house), due[house]);
        }
        x.will(0, 71);
        CHECK.due("71", x.rival(1), 0);
        x.marry(2, 0);
        // c has 121, a is ENDED with its 71
        CHECK.due("of one that is ENDED", x.rival(0), 2);
        CHECK.due("one that is ENDED isn't", x.rival(2), 1);
        CHECK.due("of b", x.rival(1), 2);
        CHECK.due("BOUND 0", Check.of("house a 0 0 1 20 0;house b 0 0 1 20 0;").rival(1), 0);
        BidLines six = Check.of("house a 1 0 1 20 0;house b 2 0 1 20 0;house c 3 0 1 20 0;house d 4 0 1 20 0;"
                + "house e 5 0 1 20 0;house f 6 0 1 20 0;");
        for (int house = 0; house < 6; house++) {
            CHECK.due("of " + house + " of six", six.rival(house), house == 5 ? 4 : 5);
        }
    }

    @Says(promise = 28, sentence = "-2: there is none;")
    static void p28None() {
        CHECK.due("one told", Check.of("house a 9 0 1 20 0;").rival(0), -2);
        BidLines x = Check.of(Check.DUEL);
        x.marry(0, 1);
        CHECK.due("of the only one", x.rival(0), -2);
        CHECK.due("of the one that is ENDED", x.rival(1), 0);
        x = Check.of("house a 9 0 1 20 0;house b 9 0 1 20 0;law death 100;");
        x.go(1);
        CHECK.due("all ENDED", x.rival(0), -2);
    }

    @Says(promise = 28, sentence = "NONE: no such HOUSE.")
    static void p28NoSuchHouse() {
        BidLines x = Check.of(Check.DUEL);
        for (int house : Check.NO_HOUSE) {
            CHECK.due("rival(" + house + ")", x.rival(house), -1);
        }
        CHECK.due("no HOUSES", new BidLines().rival(0), -1);
    }

    @Says(promise = 29, sentence = "HOUSES (bits) that are IN in n YEARS 0 .. 99 as it goes;")
    static void p29Left() {
        // 90 behind YEAR 1, 69, 0 and 0; the heir of d behind YEAR 70
        BidLines x = Check.of("house a 0 0 1 88 0;house b 0 0 1 20 0;house c 0 0 1 89 0;house d 0 0 1 89 1;");
        int[] years = {0, 1, 2, 69, 70, 71, 99};
        int[] due = {15, 11, 10, 10, 8, 0, 0};
        for (int i = 0; i < years.length; i++) {
            CHECK.due("in " + years[i], x.left(years[i]), due[i]);
        }
        CHECK.due("nothing changes", x.count(8), 4);
        x.marry(0, 2);
        CHECK.due("c isn't IN", x.left(0), 11);
        String late = "house a 0 0 1 20 0;law death (year = ";
        CHECK.due("YEAR 98", Check.of(late + "98) * 100;").left(99), 0);
        CHECK.due("YEAR 99", Check.of(late + "99) * 100;").left(99), 1);
        CHECK.due("no HOUSES", new BidLines().left(99), 0);
        x = Check.of("house a 9 0 1 20 0;calls 1;law death (year > 1) * 100;");
        CHECK.due("nobody DIES when it has FALLEN", x.left(99), 1);
    }

    @Says(promise = 29, sentence = "NONE: no such n.")
    static void p29NoSuchN() {
        BidLines x = Check.of(Check.DUEL);
        for (int n : new int[] {-1, 100, 101, Check.LEAST, Check.GREATEST}) {
            CHECK.due("left(" + n + ")", x.left(n), -1);
        }
    }

    // ---- 30 to 32: when, match, atMost

    @Says(promise = 30, sentence = "WHEN (n 0 .. 40), what 0: the YEAR from now on, 1: the BID.")
    static void p30When() {
        String late = "house a 0 0 9 20 9;law death (year = 39) * 100;law will 9;law raise 0;";
        BidLines x = Check.of(late);
        String stands = Check.picture(x);
        CHECK.due("YEAR 40", x.when(0, 40, 0), 40);
        CHECK.due("at 9", x.when(0, 40, 1), 9);
        CHECK.dueSame("nothing changes", Check.picture(x), stands);
        x.go(39);
        CHECK.due("a YEAR from now on", x.when(0, 1, 0), 1);
        x.go(1);
        CHECK.due("now", x.when(0, 0, 0), 0);
        CHECK.due("at 9", x.when(0, 0, 1), 9);
    }

    @Says(promise = 30, sentence = "-2: at none;")
    static void p30AtNone() {
        String late = "house a 0 0 9 20 9;law death (year = 40) * 100;law will 9;law raise 0;";
        for (int what = 0; what < 2; what++) {
            CHECK.due("YEAR 41", Check.of(late).when(0, 40, what), -2);
            BidLines x = Check.of("house a 9 0 1 20 0;house b 99 0 9 20 0;law death 0;");
            CHECK.due("it FALLS to another one", x.when(0, 9, what), -2);
            x = Check.of(Check.DUEL);
            x.go(6);
            CHECK.due("FALLEN", x.when(0, 40, what), -2);
        }
    }

    @Says(promise = 30, sentence = "NONE: no such ones, not IN.")
    static void p30NoSuchOnes() {
        BidLines x = Check.of(Check.DUEL);
        for (int house : Check.NO_HOUSE) {
            CHECK.due("when(" + house + ", 5, 0)", x.when(house, 5, 0), -1);
        }
        for (int n : new int[] {-1, 41, 42, Check.LEAST, Check.GREATEST}) {
            CHECK.due("when(0, " + n + ", 0)", x.when(0, n, 0), -1);
            CHECK.due("when(0, " + n + ", 1)", x.when(0, n, 1), -1);
        }
        for (int what : NO_WHAT) {
            CHECK.due("when(0, 5, " + what + ")", x.when(0, 5, what), -1);
        }
        x.marry(0, 1);
        CHECK.due("not IN", x.when(1, 5, 0), -1);
        CHECK.due("not IN", x.when(1, 5, 1), -1);
    }

    @Says(promise = 31, sentence = "MATCH;")
    static void p31Match() {
        BidLines x = Check.of(Check.DUEL + "house c 5 0 1 20 0;");
        String stands = Check.picture(x);
        CHECK.due("b with c: 30 is enough", x.match(1), 2);
        CHECK.dueSame("nothing changes", Check.picture(x), stands);
        // all of six, the last one
        StringBuilder six = new StringBuilder();
        for (char name = 'a'; name <= 'f'; name++) {
            six.append("house ").append(name).append(name == 'f' ? " 1 0 9 20 0;" : " 2 0 9 20 0;");
        }
        CHECK.due("f", Check.of(six + "law death 0;law raise bound > 2;open 0;").match(0), -2);
        x = Check.of(six + "law death 0;law raise bound > 2;");
        x.will(0, 8);
        CHECK.due("f", x.match(0), 5);
    }

    @Says(promise = 31, sentence = "-2: there is none;")
    static void p31None() {
        CHECK.due("too little", Check.of("house a 1 0 9 20 1;house b 2 0 1 20 1;open 9;").match(0), -2);
        CHECK.due("no other", Check.of("house a 99 0 9 20 1;law death 0;").match(0), -2);
        BidLines x = Check.of(Check.DUEL);
        x.marry(0, 1);
        CHECK.due("the other one is ENDED", x.match(0), -2);
    }

    @Says(promise = 31, sentence = "NONE: no such HOUSE, not IN.")
    static void p31NoSuchHouse() {
        BidLines x = Check.of(Check.DUEL);
        for (int house : Check.NO_HOUSE) {
            CHECK.due("match(" + house + ")", x.match(house), -1);
        }
        x.marry(0, 1);
        CHECK.due("not IN", x.match(1), -1);
        CHECK.due("no HOUSES", new BidLines().match(0), -1);
    }

    @Says(promise = 32,
            sentence = "In how many YEARS, 999 at most, the table has FALLEN, if nobody DIES (0: it has);")
    static void p32AtMost() {
        // 5, 10, .. 50 in ten YEARS and three calls; as it goes both are ENDED in YEAR 1
        BidLines x = Check.of("house a 50 0 5 20 0;house b 50 0 5 20 0;law death year * 100;");
        CHECK.due("as it goes", x.falls(0), 4);
        CHECK.due("if nobody DIES", x.atMost(), 13);
        x.go(1);
        CHECK.due("from now on", x.atMost(), 12);
        x.go(2);
        CHECK.due("with those that are IN now", x.atMost(), 1);
        x.go(1);
        CHECK.due("it has", x.atMost(), 0);
        String late = "house a 9 0 1 20 0;law death 100;calls 1;law raise year = ";
        CHECK.due("999", Check.of(late + "997;").atMost(), 999);
        CHECK.due("AGE grows up to 99", Check.of("house a 9 9 1 20 0;law death 100;calls 1;law raise age = 99;").atMost(), 80);
    }

    @Says(promise = 32, sentence = "-2: not by then.")
    static void p32NotByThen() {
        CHECK.due("1000", Check.of("house a 9 0 1 20 0;law death 100;calls 1;law raise year = 998;").atMost(), -2);
        CHECK.due("none may", Check.of("house a 0 0 1 20 0;").atMost(), -2);
        CHECK.due("no HOUSES", new BidLines().atMost(), -2);
    }

    // ---- 33 to 35: sameIn, nextPart, hush

    @Says(promise = 33, sentence = "How many PARTS are of the first table in n YEARS 0 .. 999;")
    static void p33SameIn() {
        BidLines x = Check.of("part a 50 10;part b 5 0;part c 5 5;part d 1 0;part e 3 99;part f 99 0;");
        int[] years = {0, 1, 4, 5, 39, 40, 98, 99, 100, 998, 999};
        int[] due = {6, 3, 3, 2, 2, 1, 1, 0, 0, 0, 0};
        for (int i = 0; i < years.length; i++) {
            CHECK.due("in " + years[i], x.sameIn(years[i]), due[i]);
        }
        x.go(5);
        CHECK.due("now", x.sameIn(0), 2);
        CHECK.due("in 34", x.sameIn(34), 2);
        CHECK.due("in 35", x.sameIn(35), 1);
        // PARTS go on when it has FALLEN
        x = Check.of("house a 9 0 9 20 0;calls 1;law death 0;part a 9 0;");
        x.go(3);
        CHECK.due("in 5", x.sameIn(5), 1);
        CHECK.due("in 6", x.sameIn(6), 0);
        CHECK.due("no PARTS", new BidLines().sameIn(999), 0);
    }

    @Says(promise = 33, sentence = "NONE: no such n.")
    static void p33NoSuchN() {
        BidLines x = Check.of("part a 9 0;");
        for (int n : new int[] {-1, 1000, 1001, Check.LEAST, Check.GREATEST}) {
            CHECK.due("sameIn(" + n + ")", x.sameIn(n), -1);
            CHECK.due("no PARTS, sameIn(" + n + ")", new BidLines().sameIn(n), -1);
        }
    }

    @Says(promise = 34, sentence = "The PART that is renewed next, what 0: which, the first of several, 1: in how many "
            + "YEARS (1: this one).")
    static void p34NextPart() {
        BidLines x = Check.of("part a 9 0;part b 4 1;part c 3 0;");
        // b and c in 3; then c in 3, a in 6; a, b, c as they come
        int[] which = {1, 1, 1, 2, 2, 2, 1};
        int[] in = {3, 2, 1, 3, 2, 1, 1};
        for (int year = 0; year < which.length; year++) {
            CHECK.due("which, YEAR " + year, x.nextPart(0), which[year]);
            CHECK.due("in, YEAR " + year, x.nextPart(1), in[year]);
            x.go(1);
        }
        CHECK.due("told older: this YEAR", Check.of("part a 2 0;part b 9 99;").nextPart(1), 1);
        CHECK.due("told older", Check.of("part a 2 0;part b 9 99;").nextPart(0), 1);
        CHECK.due("told older, the first of two", Check.of("part c 3 2;part b 9 99;").nextPart(0), 0);
        CHECK.due("the longest", Check.of("part a 99 0;").nextPart(1), 99);
    }

    @Says(promise = 34, sentence = "-2: there are no PARTS;")
    static void p34NoParts() {
        for (int what = 0; what < 2; what++) {
            CHECK.due("no LINES", new BidLines().nextPart(what), -2);
            CHECK.due("no PARTS", Check.of(Check.DUEL).nextPart(what), -2);
        }
    }

    @Says(promise = 34, sentence = "NONE for another what.")
    static void p34AnotherWhat() {
        for (int what : NO_WHAT) {
            CHECK.due("nextPart(" + what + ")", Check.of("part a 9 0;").nextPart(what), -1);
            CHECK.due("no PARTS, nextPart(" + what + ")", new BidLines().nextPart(what), -1);
        }
    }

    @Says(promise = 35, sentence = "HUSH for n YEARS (1 .. 40; bits);")
    static void p35Hush() {
        BidLines x = Check.of("house a 99 0 5 20 0;house b 99 0 5 20 0;house d 6 0 1 20 0;law death 0;");
        String stands = Check.picture(x);
        CHECK.due("1 YEAR", x.hush(0, 1), 0);
        CHECK.due("2 YEARS", x.hush(1, 2), 0);
        CHECK.due("3 YEARS", x.hush(2, 3), 1);
        CHECK.dueSame("nothing changes", Check.picture(x), stands);
        String late = "house b 9 0 9 20 0;house a 9 0 9 20 0;calls 20;law death 0;law raise year = 0 or year = ";
        CHECK.due("the last of 40 YEARS", Check.of(late + "39;").hush(1, 40), 1);
        CHECK.due("not one more", Check.of(late + "41;").hush(1, 40), -2);
    }

    @Says(promise = 35, sentence = "-2: by none;")
    static void p35ByNone() {
        BidLines x = Check.of("house a 99 0 5 20 0;house b 0 0 5 20 0;law death 0;");
        CHECK.due("it may not", x.hush(1, 9), -2);
        CHECK.due("its TURN is later", Check.of(Check.DUEL).hush(1, 1), -2);
        x = Check.of(Check.DUEL);
        x.go(6);
        CHECK.due("FALLEN to another one", x.hush(1, 9), -2);
        CHECK.due("FALLEN to it", x.hush(0, 9), 0);
    }

    @Says(promise = 35, sentence = "NONE: no such ones, not IN.")
    static void p35NoSuchOnes() {
        BidLines x = Check.of(Check.DUEL);
        for (int house : Check.NO_HOUSE) {
            CHECK.due("hush(" + house + ", 5)", x.hush(house, 5), -1);
        }
        for (int n : new int[] {0, -1, 41, 42, Check.LEAST, Check.GREATEST}) {
            CHECK.due("hush(0, " + n + ")", x.hush(0, n), -1);
        }
        x.marry(0, 1);
        CHECK.due("not IN", x.hush(1, 5), -1);
    }
}
