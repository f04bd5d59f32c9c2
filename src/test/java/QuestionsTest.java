/** Promises 7, 14 to 24, 26 to 35, 40, 41: the questions, none of which changes anything. */
public final class QuestionsTest {
    private static final Check CHECK = new Check();
    private static final String THREE = "house a 100 200 10 30 1;house b 95 150 20 50 0;house c 30 500 5 89 2;"
            + "part t 50 10;part l 5 0;calls 2;open 20;seed 0;";
    // both die without heirs in year 1
    private static final String DYING = "house a 50 0 5 20 0;house b 50 0 5 20 0;law death year * 100;";

    public static void main(String[] args) {
        ahead();
        falls();
        letGo();
        outbid();
        against();
        still();
        most();
        parts();
        lives();
        shares();
        stays();
        nextRaise();
        rival();
        left();
        when();
        match();
        atMost();
        hush();
        chance();
        tried();
        nothingChanges();
        CHECK.finish("QuestionsTest");
    }

    private static void ahead() {
        BidLines x = Check.of(THREE);
        int[][] due = {{20, -2, 3, 0}, {30, 0, 3, 1}, {50, 1, 3, 1}, {50, 1, 3, 1}, {60, 0, 3, 1}};
        for (int n = 0; n < due.length; n++) {
            for (int what = 0; what < 4; what++) {
                CHECK.due("ahead(" + n + ", " + what + ")", x.ahead(n, what), due[n][what]);
            }
        }
        CHECK.due("ahead(99, 0)", x.ahead(99, 0), 90);
        CHECK.due("ahead(100, 0)", x.ahead(100, 0), -1);
        CHECK.due("ahead(-1, 0)", x.ahead(-1, 0), -1);
        CHECK.due("ahead(1, 4)", x.ahead(1, 4), -1);
        CHECK.due("ahead(1, -1)", x.ahead(1, -1), -1);
        x = Check.of(DYING);
        x.go(1);
        x.will(0, 5);
        CHECK.due("in", x.ahead(1, 2), 0);
        CHECK.due("died more", x.ahead(1, 3), 2);
        x.go(1);
        CHECK.due("died before doesn't count", x.ahead(1, 3), 0);
        CHECK.due("no heads die by numbers", Check.of("house a 0 0 1 20 0;law death 49;").ahead(99, 3), 0);
        CHECK.due("50 at least", Check.of("house a 0 0 1 20 0;law death 50;").ahead(1, 3), 1);
        CHECK.due("error", Check.of("house a 0 0 1 89 0;law death 1 / 0;").ahead(1, 3), 1);
    }

    private static void falls() {
        BidLines x = Check.of(THREE);
        CHECK.due("years", x.falls(0), 9);
        CHECK.due("to whom", x.falls(1), 0);
        CHECK.due("bid", x.falls(2), 90);
        CHECK.due("falls(3)", x.falls(3), -1);
        CHECK.due("falls(-1)", x.falls(-1), -1);
        String late = "house a 9 9 1 20 0;law death 0;calls 1;law raise year = ";
        CHECK.due("999 years", Check.of(late + "997;").falls(0), 999);
        CHECK.due("at 1", Check.of(late + "997;").falls(2), 1);
        for (int what = 0; what < 3; what++) {
            CHECK.due("1000 years", Check.of(late + "998;").falls(what), -2);
        }
        x = Check.of(late + "2;");
        x.go(1);
        CHECK.due("from now on", x.falls(0), 3);
        x.go(2);
        CHECK.due("it is called next", x.falls(0), 1);
        x.go(1);
        CHECK.due("it has", x.falls(0), 0);
        CHECK.due("to a", x.falls(1), 0);
        CHECK.due("at 1", x.falls(2), 1);
        CHECK.due("falls(3)", x.falls(3), -1);
    }

    private static void letGo() {
        BidLines x = Check.of(THREE);
        CHECK.due("a", x.letGo(0), 0);
        CHECK.due("b", x.letGo(1), 15);
        CHECK.due("c", x.letGo(2), 75);
        CHECK.due("no such", x.letGo(3), -1);
        CHECK.due("no such", x.letGo(-1), -1);
        x.marry(0, 2);
        CHECK.due("not in", x.letGo(2), -1);
        String high = "house a 0 0 1 20 1;law death 0;calls 1;open ";
        CHECK.due("300", Check.of(high + "299;").letGo(0), 300);
        CHECK.due("301", Check.of(high + "300;").letGo(0), -2);
        String late = "house a 9 9 1 20 0;law death 0;calls 1;law raise year = ";
        CHECK.due("120 years", Check.of(late + "118;").letGo(0), 0);
        CHECK.due("121 years", Check.of(late + "119;").letGo(0), -2);
        // not each greater bound does: a law may look at it
        CHECK.due("only some", Check.of("house a 5 9 1 20 0;law death 0;law raise bound = 77;").letGo(0), 72);
        x = Check.of(late + "0;house b 9 9 9 20 0;");
        x.go(3);
        CHECK.due("it has fallen to a", x.letGo(0), 0);
        CHECK.due("not to b", x.letGo(1), -2);
    }

    private static void outbid() {
        CHECK.due("a", Check.of(THREE).outbid(), 1);
        CHECK.due("two of one bound", Check.of("house a 50 0 1 20 0;house b 50 0 1 20 0;house c 10 0 1 20 0;").outbid(), 3);
        CHECK.due("as much is not more", Check.of("house a 50 0 1 20 0;house b 20 0 1 20 0;house c 30 0 1 20 0;").outbid(), 1);
        String steps = "house a 50 0 10 20 0;house b 40 0 9 20 0;house c 45 0 1 20 0;open ";
        CHECK.due("the least step of theirs", Check.of(steps + "89;").outbid(), 5);
        CHECK.due("all three", Check.of(steps + "134;").outbid(), 7);
        CHECK.due("by none", Check.of(steps + "135;").outbid(), -2);
        CHECK.due("one", Check.of("house a 5 0 5 20 0;").outbid(), 1);
        CHECK.due("one that can't", Check.of("house a 4 0 5 20 0;").outbid(), -2);
        CHECK.due("no houses", new BidLines().outbid(), -2);
        CHECK.due("fewer, not less", Check.of("house a 50 0 1 20 0;house b 20 0 1 20 0;house c 60 0 1 20 0;").outbid(), 4);
        BidLines x = Check.of("house a 50 0 1 20 0;house b 60 0 1 20 0;house c 59 0 1 20 0;");
        CHECK.due("b", x.outbid(), 2);
        x.marry(2, 1);
        CHECK.due("b isn't in", x.outbid(), 4);
        x.will(2, 0);
        CHECK.due("a", x.outbid(), 1);
    }

    private static void dueAgainst(BidLines x, int one, int other, int who, int bid) {
        CHECK.due("against(" + one + ", " + other + ", 0)", x.against(one, other, 0), who);
        CHECK.due("against(" + one + ", " + other + ", 1)", x.against(one, other, 1), bid);
    }

    private static void against() {
        BidLines x = Check.of(THREE);
        dueAgainst(x, 0, 1, 0, 90);
        dueAgainst(x, 1, 0, 1, 80);
        dueAgainst(x, 2, 0, 1, 35);
        x.nod(0);
        dueAgainst(x, 0, 1, 0, 100);
        dueAgainst(x, 0, 0, -1, -1);
        dueAgainst(x, 0, 3, -1, -1);
        dueAgainst(x, -1, 0, -1, -1);
        CHECK.due("what 2", x.against(0, 1, 2), -1);
        CHECK.due("what -1", x.against(0, 1, -1), -1);
        x.marry(0, 2);
        dueAgainst(x, 0, 2, -1, -1);
        dueAgainst(x, 2, 1, -1, -1);
        String worth = "house b 100 100 10 20 0;open 30;house a 100 ";
        dueAgainst(Check.of(worth + "50 10 20 0;"), 1, 0, 1, 50);
        dueAgainst(Check.of(worth + "41 10 20 0;"), 1, 0, 1, 50);
        dueAgainst(Check.of(worth + "40 10 20 0;"), 1, 0, 1, 30);
        dueAgainst(Check.of(worth + "40 10 20 0;"), 0, 1, 0, 40);
        dueAgainst(Check.of("house a 10 99 5 20 0;house b 10 99 5 20 0;"), 0, 1, 1, 10);
        x = Check.of("house a 9 999 1 20 0;house b 9 999 1 20 0;");
        x.will(0, 9999);
        x.will(1, 9999);
        dueAgainst(x, 0, 1, 1, 998);
    }

    private static void still() {
        BidLines x = Check.of(THREE);
        CHECK.due("all", x.still(), 7);
        x.nod(0);
        CHECK.due("who leads, too", x.still(), 3);
        x.will(1, 50);
        CHECK.due("no more than bound", x.still(), 3);
        x.will(1, 49);
        CHECK.due("more than bound", x.still(), 1);
        x.marry(1, 0);
        CHECK.due("a isn't in", x.still(), 2);
        CHECK.due("no houses", new BidLines().still(), 0);
    }

    private static void most() {
        BidLines x = Check.of(THREE);
        CHECK.due("five", x.most(), 5);
        x.nod(0);
        CHECK.due("b first", x.most(), 4);
        CHECK.due("alone", Check.of("house a 50 0 1 20 0;").most(), 1);
        CHECK.due("whatever the laws", Check.of("house a 5 0 1 20 0;house b 5 0 1 20 0;law raise 0;law death 100;").most(), 5);
        CHECK.due("no houses", new BidLines().most(), 0);
        x = Check.of("house a 9 0 1 20 0;house b 9 0 1 20 0;calls 1;law death 0;law raise year = 0;");
        x.will(0, 9999);
        x.will(1, 9999);
        CHECK.due("many", x.most(), 9999);
        x.go(1);
        CHECK.due("b is next", x.most(), 9998);
        x.go(1);
        CHECK.due("it has fallen", x.most(), 0);
    }

    private static void parts() {
        BidLines x = Check.of("part a 50 10;part b 5 0;part c 5 5;part d 1 0;part e 3 99;calls 2;");
        int[][] due = {{50, 10, 1}, {5, 0, 1}, {5, 5, 1}, {1, 0, 1}, {3, 99, 1}};
        for (int part = 0; part < 5; part++) {
            for (int what = 0; what < 3; what++) {
                CHECK.due("part(" + part + ", " + what + ")", x.part(part, what), due[part][what]);
            }
            CHECK.due("part(" + part + ", 3)", x.part(part, 3), -1);
            CHECK.due("part(" + part + ", -1)", x.part(part, -1), -1);
        }
        CHECK.due("part(5, 0)", x.part(5, 0), -1);
        CHECK.due("part(-1, 0)", x.part(-1, 0), -1);
        int[] in = {5, 2, 2, 2, 2, 1};
        for (int n = 0; n < in.length; n++) {
            CHECK.due("sameIn(" + n + ")", x.sameIn(n), in[n]);
        }
        CHECK.due("sameIn(39)", x.sameIn(39), 1);
        CHECK.due("sameIn(40)", x.sameIn(40), 0);
        CHECK.due("sameIn(999)", x.sameIn(999), 0);
        CHECK.due("sameIn(1000)", x.sameIn(1000), -1);
        CHECK.due("sameIn(-1)", x.sameIn(-1), -1);
        CHECK.due("same()", x.same(), 5);
        CHECK.due("noneLeft()", x.noneLeft(), 40);
        CHECK.due("nextPart(0)", x.nextPart(0), 2);
        CHECK.due("nextPart(1)", x.nextPart(1), 1);
        CHECK.due("nextPart(2)", x.nextPart(2), -1);
        CHECK.due("nextPart(-1)", x.nextPart(-1), -1);
        x.go(1);
        CHECK.due("same()", x.same(), 2);
        int[][] then = {{11, 1}, {1, 1}, {0, 0}, {0, 0}, {0, 0}};
        for (int part = 0; part < 5; part++) {
            CHECK.due("old " + part, x.part(part, 1), then[part][0]);
            CHECK.due("first " + part, x.part(part, 2), then[part][1]);
        }
        x.go(3);
        CHECK.due("b is renewed next", x.nextPart(0), 1);
        x.go(36);
        CHECK.due("none is left", x.same(), 0);
        CHECK.due("now", x.noneLeft(), 0);
        CHECK.due("renewed again and again", x.part(3, 1), 0);
        CHECK.due("40 of 5", x.part(1, 1), 0);
        CHECK.due("39 of 5", x.part(2, 1), 4);
        CHECK.due("39 of 3", x.part(4, 1), 0);
        noParts();
    }

    private static void noParts() {
        BidLines x = Check.of("house a 9 0 9 20 0;");
        CHECK.due("same()", x.same(), 0);
        CHECK.due("noneLeft()", x.noneLeft(), 0);
        CHECK.due("sameIn(9)", x.sameIn(9), 0);
        CHECK.due("nextPart(0)", x.nextPart(0), -2);
        CHECK.due("nextPart(1)", x.nextPart(1), -2);
        CHECK.due("nextPart(2)", x.nextPart(2), -1);
        // the parts go on when the table has fallen
        x = Check.of("house a 9 0 9 20 0;calls 1;part p 4 0;law death 0;");
        x.go(2);
        CHECK.due("fallen", x.count(7), 1);
        x.go(1);
        CHECK.due("a year older", x.part(0, 1), 3);
        CHECK.due("one year", x.noneLeft(), 1);
        x.go(1);
        CHECK.due("renewed", x.part(0, 2), 0);
        CHECK.due("next in four", x.nextPart(1), 4);
    }

    private static void dueLives(BidLines x, int house, int n, long above, long below) {
        CHECK.due("lives(" + house + ", " + n + ", 0)", x.lives(house, n, 0), above);
        CHECK.due("lives(" + house + ", " + n + ", 1)", x.lives(house, n, 1), below);
    }

    private static void lives() {
        BidLines x = Check.of(THREE);
        dueLives(x, 1, 2, 979, 1250);
        dueLives(x, 1, 0, 1, 1);
        dueLives(x, 0, 6, 1, 1);
        dueLives(x, 0, 7, -1, -1);
        dueLives(x, 0, -1, -1, -1);
        dueLives(x, 3, 1, -1, -1);
        dueLives(x, -1, 1, -1, -1);
        CHECK.due("lives(0, 1, 2)", x.lives(0, 1, 2), -1);
        CHECK.due("lives(0, 1, -1)", x.lives(0, 1, -1), -1);
        x.marry(0, 1);
        dueLives(x, 1, 1, -1, -1);
        dueLives(Check.of("house a 0 0 1 97 0;"), 0, 3, 35301, 500000);
        dueLives(Check.of("house a 0 0 1 20 0;law death 100;"), 0, 1, 0, 1);
        dueLives(Check.of("house a 0 0 1 20 0;law death 9999;"), 0, 6, 0, 1);
        dueLives(Check.of("house a 0 0 1 20 0;law death 0 - 9;"), 0, 6, 1, 1);
        dueLives(Check.of("house a 0 0 1 20 0;law death 1;"), 0, 6, 941480149401L, 1000000000000L);
        dueLives(Check.of("house a 0 0 1 20 0;law death year * 100;"), 0, 6, 1, 1);
        dueLives(Check.of("house a 0 0 1 20 0;law death (age = 22) * 50;"), 0, 1, 1, 1);
        dueLives(Check.of("house a 0 0 1 20 0;law death (age = 22) * 50;"), 0, 6, 1, 2);
    }

    private static void shares() {
        BidLines x = Check.of(THREE);
        CHECK.due("a of b", x.shares(0, 1), 115);
        CHECK.due("c of a", x.shares(2, 0), 390);
        CHECK.due("alike", x.shares(0, 0), -1);
        CHECK.due("no such", x.shares(0, 3), -1);
        CHECK.due("no such", x.shares(-1, 0), -1);
        x.marry(0, 1);
        CHECK.due("not in", x.shares(0, 1), -1);
        CHECK.due("not in", x.shares(1, 2), -1);
        x = Check.of("house a 99 4 1 20 0;house b 99 3 1 20 0;");
        CHECK.due("half below 0 is cut", x.shares(0, 1), 3);
        CHECK.due("the other one", x.shares(1, 0), 2);
        String poor = "house a 5 100 10 20 0;house b 5 60 8 20 0;open ";
        CHECK.due("together", Check.of(poor + "2;").shares(0, 1), 49);
        CHECK.due("not together", Check.of(poor + "3;").shares(0, 1), 0);
        CHECK.due("bid beyond worth", Check.of("house a 99 5 1 20 0;house b 99 3 1 20 0;open 9;").shares(0, 1), 0);
        CHECK.due("worth nothing", Check.of("house a 99 0 1 20 0;house b 99 0 1 20 0;").shares(0, 1), 0);
        CHECK.due("odd", Check.of("house a 1 7 9 20 0;house b 9 2 9 20 0;").shares(1, 0), 4);
        CHECK.due("bound is step", Check.of("house a 9 7 9 20 0;house b 0 2 9 20 0;").shares(0, 1), 7);
    }

    private static void stays() {
        BidLines x = Check.of("house a 10 100 1 20 0;house b 10 50 1 20 0;house c 10 30 1 20 0;open 25;");
        int[][] due = {{30, 20, 1}, {75, 0, 1}, {0, 0, 1}, {-1, 20, 0}, {20, -1, 0}, {50, 26, 0}, {50, 25, 1},
            {9999, -9999, 0}, {10000, 0, -1}, {0, 10000, -1}, {-10000, 0, -1}, {0, -10000, -1}};
        for (int[] d : due) {
            CHECK.due("stays(0, 1, 2, " + d[0] + ", " + d[1] + ")", x.stays(0, 1, 2, d[0], d[1]), d[2]);
        }
        CHECK.due("two alike", x.stays(0, 0, 2, 0, 0), -1);
        CHECK.due("two alike", x.stays(0, 1, 0, 0, 0), -1);
        CHECK.due("two alike", x.stays(0, 1, 1, 0, 0), -1);
        CHECK.due("no such", x.stays(0, 1, 3, 0, 0), -1);
        CHECK.due("no such", x.stays(-1, 1, 2, 0, 0), -1);
        // two with a have 82, b and c nothing
        x = Check.of("house a 10 100 1 20 0;house b 10 18 1 20 0;house c 10 3 1 20 0;open 18;");
        CHECK.due("all to a", x.stays(0, 1, 2, 82, 0), 1);
        CHECK.due("one less", x.stays(0, 1, 2, 81, 1), 0);
        CHECK.due("one less", x.stays(0, 1, 2, 81, 0), 0);
        CHECK.due("in another order", x.stays(1, 2, 0, 0, 0), 1);
        CHECK.due("in another order", x.stays(1, 0, 2, 0, 82), 1);
        // b and c together have 32
        x = Check.of("house a 10 100 1 20 0;house b 10 50 1 20 0;house c 10 3 1 20 0;open 18;");
        CHECK.due("two of them have more", x.stays(0, 1, 2, 82, 0), 0);
        x.marry(0, 1);
        CHECK.due("not in", x.stays(0, 1, 2, 0, 0), -1);
    }

    private static void nextRaise() {
        BidLines x = Check.of(THREE);
        CHECK.due("this year", x.nextRaise(0), 1);
        CHECK.due("by a", x.nextRaise(1), 0);
        CHECK.due("what 2", x.nextRaise(2), -1);
        CHECK.due("what -1", x.nextRaise(-1), -1);
        String late = "house b 0 0 1 20 0;house a 9 9 1 20 0;house c 0 0 1 20 0;law death 0;law raise year = ";
        CHECK.due("99", Check.of(late + "97;").nextRaise(0), 98);
        CHECK.due("by a", Check.of(late + "97;").nextRaise(1), 1);
        late = "house a 9 9 1 20 0;law death 0;law raise year = ";
        CHECK.due("99", Check.of(late + "98;").nextRaise(0), 99);
        CHECK.due("100", Check.of(late + "99;").nextRaise(0), -2);
        CHECK.due("100", Check.of(late + "99;").nextRaise(1), -2);
        x = Check.of(late + "0;calls 1;");
        x.go(2);
        CHECK.due("fallen", x.nextRaise(0), -2);
    }

    private static void rival() {
        BidLines x = Check.of("house a 50 0 1 20 0;house b 70 0 1 20 0;house c 50 0 1 20 0;house d 70 0 1 20 0;");
        CHECK.due("of a", x.rival(0), 1);
        CHECK.due("of b", x.rival(1), 3);
        CHECK.due("no such", x.rival(4), -1);
        CHECK.due("no such", x.rival(-1), -1);
        x.marry(0, 1);
        CHECK.due("of one that isn't in", x.rival(1), 0);
        x.marry(0, 3);
        CHECK.due("of a", x.rival(0), 2);
        x.marry(0, 2);
        CHECK.due("of a", x.rival(0), -2);
        CHECK.due("bound 0", Check.of("house a 0 0 1 20 0;house b 0 0 1 20 0;").rival(0), 1);
    }

    private static void left() {
        BidLines x = Check.of("house a 0 0 1 88 0;house b 0 0 1 20 0;house c 0 0 1 89 0;house d 0 0 1 89 1;");
        CHECK.due("now", x.left(0), 15);
        CHECK.due("in 1", x.left(1), 11);
        CHECK.due("in 2", x.left(2), 10);
        CHECK.due("in 69", x.left(69), 10);
        CHECK.due("in 70", x.left(70), 8);
        CHECK.due("in 71", x.left(71), 0);
        CHECK.due("in 99", x.left(99), 0);
        CHECK.due("in 100", x.left(100), -1);
        CHECK.due("in -1", x.left(-1), -1);
    }

    private static void when() {
        BidLines x = Check.of(THREE);
        CHECK.due("b", x.when(1, 8, 0), 1);
        CHECK.due("b at", x.when(1, 8, 1), 50);
        CHECK.due("b at once", x.when(1, 0, 0), -2);
        CHECK.due("b at once", x.when(1, 0, 1), -2);
        CHECK.due("c", x.when(2, 40, 0), -2);
        CHECK.due("n 41", x.when(1, 41, 0), -1);
        CHECK.due("n -1", x.when(1, -1, 0), -1);
        CHECK.due("what 2", x.when(1, 8, 2), -1);
        CHECK.due("what -1", x.when(1, 8, -1), -1);
        CHECK.due("no such", x.when(3, 8, 0), -1);
        x.marry(0, 1);
        CHECK.due("not in", x.when(1, 8, 0), -1);
        // the least bid, the first of several
        x = Check.of("house a 20 0 9 20 0;house b 0 0 1 20 0;law raise year = 3;law death 0;calls 2;");
        CHECK.due("at once", x.when(0, 40, 0), 0);
        CHECK.due("at 9", x.when(0, 40, 1), 9);
        // within 120 years from now, those ahead of the nod too
        x = Check.of("house a 20 0 9 20 0;law raise 0;law death 0;calls 20;law will 1;");
        CHECK.due("at 9", x.when(0, 40, 1), 9);
        x.go(4);
        CHECK.due("from now on", x.when(0, 40, 0), 0);
        x.nod(0);
        CHECK.due("it leads", x.when(0, 40, 0), -2);
        x.go(20);
        CHECK.due("fallen", x.when(0, 40, 0), -2);
        // a nod that gets it only later, when the other one is ended
        x = Check.of("house a 20 0 5 20 0;house b 90 0 5 20 0;law death (bound = 90 and year = 2) * 100;calls 2;open 5;"
                + "law raise bound = 90;");
        CHECK.due("behind the other one's last raise", x.when(0, 9, 0), 2);
        CHECK.due("at", x.when(0, 9, 1), 15);
        CHECK.due("not ahead of it", x.when(0, 1, 0), -2);
        CHECK.due("n itself", x.when(0, 2, 0), 2);
        whenWithin();
    }

    /** Two raise in turn until a year; 20 calls later the table falls to b, whichever year it nodded in. */
    private static void whenWithin() {
        String both = "house a 999 0 1 20 0;house b 999 0 1 20 0;calls 20;law death 0;law raise year <= ";
        BidLines x = Check.of(both + "99;");
        CHECK.due("120 years from now", x.when(1, 40, 0), 1);
        CHECK.due("at", x.when(1, 40, 1), 100);
        CHECK.due("122 years from now", Check.of(both + "101;").when(1, 40, 0), -2);
    }

    private static void match() {
        BidLines x = Check.of(THREE);
        CHECK.due("b", x.match(1), 2);
        CHECK.due("a", x.match(0), 2);
        CHECK.due("no such", x.match(3), -1);
        CHECK.due("no such", x.match(-1), -1);
        x.marry(0, 2);
        CHECK.due("not in", x.match(2), -1);
        x.marry(0, 1);
        CHECK.due("none", x.match(0), -2);
        String two = "house a 10 0 1 20 1;house b 20 0 10 20 1;house c 20 0 10 20 1;open 15;law death 0;calls 1;";
        CHECK.due("the first of several", Check.of(two).match(0), 1);
        CHECK.due("the least bound", Check.of(two + "house d 15 0 10 20 1;").match(0), 3);
        String three = "house c 5 0 10 20 1;house b 6 0 10 20 1;house a 10 0 1 20 1;open 10;law death 0;calls 1;";
        CHECK.due("the first one, which is less", Check.of(three).match(2), 0);
        CHECK.due("the first one, as much", Check.of(three.replace("b 6", "b 5")).match(2), 0);
        CHECK.due("the second one, which is less", Check.of(three.replace("b 6", "b 4")).match(2), 1);
        CHECK.due("no match is enough", Check.of("house a 1 0 9 20 1;house b 2 0 1 20 1;open 9;").match(0), -2);
        String late = "house a 9 9 1 20 0;house b 0 0 1 20 0;law death 0;calls 1;law raise year = ";
        CHECK.due("120 years", Check.of(late + "118;").match(0), 1);
        CHECK.due("121 years", Check.of(late + "119;").match(0), -2);
    }

    private static void atMost() {
        BidLines x = Check.of(DYING);
        CHECK.due("falls", x.falls(0), 4);
        CHECK.due("if nobody dies", x.atMost(), 13);
        x.go(1);
        CHECK.due("from now on", x.atMost(), 12);
        x.go(3);
        CHECK.due("it has", x.atMost(), 0);
        CHECK.due("never", Check.of("house a 0 0 1 20 0;").atMost(), -2);
        String late = "house a 9 9 1 20 0;law death 100;calls 1;law raise year = ";
        CHECK.due("999", Check.of(late + "997;").atMost(), 999);
        CHECK.due("1000", Check.of(late + "998;").atMost(), -2);
        CHECK.due("heads grow old", Check.of("house a 9 9 1 20 0;law death 100;calls 1;law raise age = 99;").atMost(), 80);
    }

    private static void hush() {
        BidLines x = Check.of(THREE);
        CHECK.due("b", x.hush(1, 9), 1);
        CHECK.due("a", x.hush(0, 9), 0);
        CHECK.due("c in 3", x.hush(2, 3), 3);
        CHECK.due("c in 2", x.hush(2, 2), -2);
        CHECK.due("n 0", x.hush(0, 0), -1);
        CHECK.due("n 1", x.hush(0, 1), 0);
        CHECK.due("n 40", x.hush(0, 40), 0);
        CHECK.due("n 41", x.hush(0, 41), -1);
        CHECK.due("no such", x.hush(3, 9), -1);
        CHECK.due("no such", x.hush(-1, 9), -1);
        x.marry(0, 1);
        CHECK.due("not in", x.hush(1, 9), -1);
        CHECK.due("only those that are in", x.hush(2, 3), 1);
        x = Check.of("house a 9 0 1 20 0;house b 9 0 3 20 0;house c 9 0 3 20 0;house d 9 0 9 20 0;law death 0;");
        CHECK.due("all three", x.hush(3, 4), 7);
        x = Check.of("house a 99 0 5 20 0;house b 99 0 5 20 0;house c 99 0 8 20 0;house d 11 0 1 20 0;law death 0;");
        CHECK.due("fewer, not less", x.hush(3, 4), 4);
        x = Check.of("house a 9 0 1 20 0;house b 9 0 3 20 0;house c 9 0 3 20 0;house d 9 0 9 20 0;law death 0;");
        CHECK.due("a in 3 years", x.hush(0, 3), 6);
    }

    private static void chance() {
        BidLines x = Check.of("house a 0 0 1 20 0;house b 0 0 1 20 2;law death 30;");
        CHECK.due("seed -1", x.chance(-1, 1, 0), -1);
        CHECK.due("n 0", x.chance(1, 0, 0), -1);
        CHECK.due("n 100", x.chance(1, 100, 0), -1);
        CHECK.due("n 99", x.chance(1, 99, 0), 0);
        CHECK.due("no such", x.chance(1, 1, 2), -1);
        CHECK.due("no such", x.chance(1, 1, -1), -1);
        x.marry(0, 1);
        CHECK.due("not in", x.chance(1, 1, 1), 0);
        CHECK.due("never", Check.of("house a 0 0 1 20 0;law death 0;").chance(9, 99, 0), 10);
        CHECK.due("always", Check.of("house a 0 0 1 20 0;law death 100;").chance(9, 1, 0), 0);
        BidLines one = Check.of("house a 0 0 1 20 9;law death 50;seed 77;");
        BidLines other = Check.of("house a 0 0 1 20 9;law death 50;seed 77;");
        one.chance(5, 9, 0);
        one.go(6);
        other.go(6);
        CHECK.due("its own numbers stay", one.count(9), other.count(9));
    }

    private static void tried() {
        BidLines x = Check.of(DYING);
        CHECK.due("as it goes", x.ahead(99, 0), 5);
        CHECK.due("nobody dies", x.tried(0, 0, 99), 50);
        CHECK.due("nobody is ended", x.tried(1, 0, 99), 50);
        CHECK.due("a never raises", x.tried(2, 0, 99), 0);
        CHECK.due("b never raises", x.tried(2, 1, 99), 5);
        CHECK.due("step 1", x.tried(3, 0, 99), 1);
        CHECK.due("bounds 999", x.tried(4, 0, 99), 5);
        CHECK.due("heirs that are left", Check.of(DYING + "law will heirs * 100 + 20;").tried(1, 0, 99), 20);
        CHECK.due("none is left", Check.of(DYING + "law will heirs * 100 + 7;").tried(1, 0, 99), 5);
        CHECK.due("up to 999", Check.of("house a 0 0 9 20 0;open 990;").tried(4, 0, 1), 999);
        CHECK.due("not 1000", Check.of("house a 0 0 10 20 0;open 990;").tried(4, 0, 1), 990);
        CHECK.due("bounds of wills", Check.of(DYING + "law will 7;").tried(1, 0, 99), 5);
        for (int what = -1; what < 6; what++) {
            boolean there = what >= 0 && what < 5;
            CHECK.due("n 0", x.tried(what, 0, 0), there ? 0 : -1);
            CHECK.due("n -1", x.tried(what, 0, -1), -1);
            CHECK.due("n 100", x.tried(what, 0, 100), -1);
            CHECK.due("i 1", x.tried(what, 1, 0), what == 2 ? 0 : -1);
            CHECK.due("i 2", x.tried(what, 2, 0), -1);
            CHECK.due("i -1", x.tried(what, -1, 0), -1);
        }
        x = Check.of("house a 9 0 5 20 0;house b 8 0 3 20 0;law death 0;");
        CHECK.due("as it goes", x.ahead(99, 0), 8);
        CHECK.due("step 1", x.tried(3, 0, 99), 9);
        CHECK.due("bounds 999", x.tried(4, 0, 4), 16);
        x.will(0, 5000);
        x.will(1, 5000);
        CHECK.due("999, whatever they are", x.tried(4, 0, 99), Check.of("house a 999 0 5 20 0;house b 999 0 3 20 0;law death 0;")
                .ahead(99, 0));
        x.marry(0, 1);
        CHECK.due("one that isn't in", x.tried(2, 1, 3), 5);
    }

    private static void nothingChanges() {
        BidLines x = Check.of(THREE);
        x.nod(1);
        x.ahead(50, 0);
        x.falls(0);
        x.letGo(1);
        x.outbid();
        x.against(0, 1, 0);
        x.most();
        x.lives(0, 6, 0);
        x.nextRaise(0);
        x.left(9);
        x.when(0, 9, 0);
        x.match(0);
        x.atMost();
        x.hush(0, 9);
        x.hush(1, 1);
        CHECK.due("nobody is hushed any more", x.ahead(1, 0), 50);
        x.see(1, 1, true);
        x.bounds(0);
        x.chance(1, 50, 0);
        x.tried(4, 0, 9);
        int[] counts = {3, 2, 0, 0, 40, 1, 0, 0, 3, 0, 1, 1, 1};
        for (int i = 0; i < counts.length; i++) {
            CHECK.due("count(" + i + ")", x.count(i), counts[i]);
        }
        int[][] due = {{100, 200, 10, 30, 1, 1, 0, -1}, {95, 150, 20, 50, 0, 1, 1, 40}, {30, 500, 5, 89, 2, 1, 0, -1}};
        for (int h = 0; h < 3; h++) {
            for (int what = 0; what < 8; what++) {
                CHECK.due("house(" + h + ", " + what + ")", x.house(h, what), due[h][what]);
            }
        }
        CHECK.due("what is tried otherwise is forgotten", x.ahead(9, 0), 80);
    }
}
