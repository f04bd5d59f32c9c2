/** Promises 6, 8 to 13, 25, 42 to 45: how the sale stands, years, what is done by call, undone and kept. */
public final class SaleTest {
    private static final Check CHECK = new Check();
    private static final String THREE = "house a 100 200 10 30 1;house b 95 150 20 50 0;house c 30 500 5 89 2;"
            + "part t 50 10;part l 5 0;calls 2;open 20;seed 0;";

    public static void main(String[] args) {
        houses();
        laws();
        values();
        errors();
        numbers();
        heads();
        handing();
        endings();
        turns();
        raising();
        calling();
        nods();
        marriages();
        wills();
        children();
        going();
        undoing();
        images();
        counts();
        CHECK.finish("SaleTest");
    }

    private static void houses() {
        BidLines x = Check.of(THREE);
        int[][] due = {{100, 200, 10, 30, 1, 1, 0, -1}, {95, 150, 20, 50, 0, 1, 0, -1}, {30, 500, 5, 89, 2, 1, 0, -1}};
        for (int h = 0; h < 3; h++) {
            for (int what = 0; what < 8; what++) {
                CHECK.due("house(" + h + ", " + what + ")", x.house(h, what), due[h][what]);
                CHECK.dueThrow(x, h, what, 0);
            }
            CHECK.dueThrow(x, h, 8, 2);
            CHECK.dueThrow(x, h, -1, 2);
        }
        CHECK.dueThrow(x, 3, 0, 1);
        CHECK.dueThrow(x, -1, 0, 1);
        CHECK.dueThrow(x, 3, 8, 1);
        CHECK.dueThrow(x, Integer.MAX_VALUE, Integer.MIN_VALUE, 1);
        CHECK.dueThrow(x, 0, Integer.MAX_VALUE, 2);
        CHECK.dueThrow(new BidLines(), 0, 0, 1);
    }

    private static void laws() {
        BidLines x = Check.of("house a 200 300 7 60 3;house b 1 2 3 4 5;open 50;law death age / 2 - heirs;"
                + "law raise bid < worth / 2;");
        CHECK.due("death of a", x.law(0, 0), 27);
        CHECK.due("death of b", x.law(0, 1), -3);
        CHECK.due("will isn't told", x.law(1, 0), Long.MIN_VALUE);
        CHECK.due("raise of a", x.law(2, 0), 1);
        CHECK.due("raise of b", x.law(2, 1), 0);
        CHECK.due("no law 3", x.law(3, 0), Long.MIN_VALUE);
        CHECK.due("no law -1", x.law(-1, 0), Long.MIN_VALUE);
        CHECK.due("no house 2", x.law(0, 2), Long.MIN_VALUE);
        CHECK.due("no house -1", x.law(0, -1), Long.MIN_VALUE);
        x.marry(0, 1);
        CHECK.due("of one that is ended", x.law(0, 1), -3);
    }

    private static void value(String e, long due) {
        CHECK.dueValue(e, due);
    }

    private static void values() {
        value("bid", 9);
        value("bound", 12);
        value("worth", 34);
        value("age", 67);
        value("heirs", 8);
        value("called", 0);
        value("year", 0);
        value("1 - 2 - 3", -4);
        value("1 - (2 - 3)", 2);
        value("100 / 10 / 5", 2);
        value("2 + 3 * 4", 14);
        value("(2 + 3) * 4", 20);
        value("7 / 2 * 2", 6);
        value("(0 - 7) / 2", -3);
        value("7 / (0 - 2)", -3);
        value("1 < 2", 1);
        value("2 < 2", 0);
        value("2 <= 2", 1);
        value("3 <= 2", 0);
        value("2 = 2", 1);
        value("2 = 3", 0);
        value("2 <> 3", 1);
        value("2 <> 2", 0);
        value("3 <> 2", 1);
        value("2 >= 3", 0);
        value("3 >= 3", 1);
        value("3 > 3", 0);
        value("4 > 3", 1);
        value("5 and 7", 1);
        value("5 and 0", 0);
        value("0 or 7", 1);
        value("0 or 0", 0);
        value("not 7", 0);
        value("not 0", 1);
        value("not not 7", 1);
        value("not 1 = 2", 1);
        value("not 0 and 0", 0);
        value("1 or 1 and 0", 1);
        value("(1 or 1) and 0", 0);
        value("0 and 0 or 1", 1);
        value("1 + 1 = 2 and 3 * 2 > 5", 1);
        value("(1 < 2) + (3 < 4)", 2);
        value("5 = 1 + 1", 0);
        value("0 < 0 - 1", 0);
        value("2 * (3 + 4) * 5", 70);
        value("2 - (3 - (4 - 5)) - 6", -8);
        value("1 + (not 2)", 1);
        value("1 + (not 0 or 0)", 2);
        value("not 0 = (not 1)", 0);
        value("not ".repeat(63) + "1", 0);
        value("((((((((" + "not ".repeat(63) + "1))))))))", 0);
        value("((((((((" + "not ".repeat(62) + "1))))))))", 1);
        value("1+(1+(1+(1+(1+(1+(1+(1+(1))))))))", 9);
        BidLines x = Check.of("house a 99 34 5 7 8;calls 9;law will year * 100 + called;");
        x.nod(0);
        x.go(3);
        CHECK.due("year and called", x.law(1, 0), 303);
    }

    private static void errors() {
        long error = Long.MIN_VALUE;
        value("9999 * 9999 * 9999", 999700029999L);
        value("0 - 9999 * 9999 * 9999", -999700029999L);
        value("1000 * 1000 * 1000 * 1000", 1000000000000L);
        value("1000 * 1000 * 1000 * 1000 + 1", error);
        value("1000 * 1000 * 1000 * 1000 + 1 - 1", error);
        value("0 - 1000 * 1000 * 1000 * 1000", -1000000000000L);
        value("0 - 1000 * 1000 * 1000 * 1000 - 1", error);
        value("0 * (1000 * 1000 * 1000 * 1000 + 1)", error);
        // beyond a long: 2 to the 64 and some would come out small
        value("(4096 * 4096 * 4096) * (4096 * 4096 * 16)", error);
        value("(0 - 4096 * 4096 * 4096) * (4096 * 4096 * 16)", error);
        value("(1000 * 1000 * 1000 * 1000) * (1000 * 1000 * 1000 * 1000)", error);
        value("(0 - 1000 * 1000) * (1000 * 1000)", -1000000000000L);
        value("(0 - 1000 * 1000) * (1000 * 1000 + 1)", error);
        value("1 / 0", error);
        value("0 / (heirs - 8)", error);
        value("0 and 1 / 0", error);
        value("1 or 1 / 0", error);
        value("not (1 / 0)", error);
        value("1 / 0 = 1 / 0", error);
    }

    private static void numbers() {
        for (int seed = 0; seed < 99999; seed += 1249) {
            BidLines x = Check.of("house a 0 0 1 20 9;house b 0 0 1 20 9;house c 0 0 1 20 9;house d 0 0 1 20 9;"
                    + "law death (bound = 0) * 37 + (year / 2 * 2 = year) * 20;seed " + seed + ";");
            long last = seed;
            int died = 0;
            int[] heirs = {9, 9, 9, 9};
            for (int year = 0; year < 14; year++) {
                for (int h = 0; h < 4; h++) {
                    if (heirs[h] >= 0) {
                        last = Check.nextNumber(last);
                        boolean dies = Check.drawn(last) < (year % 2 == 0 ? 57 : 37);
                        heirs[h] -= dies ? 1 : 0;
                        died += dies ? 1 : 0;
                    }
                }
                x.go(1);
                CHECK.due("seed " + seed + ": died by year " + year, x.count(9), died);
                for (int h = 0; h < 4; h++) {
                    CHECK.due("seed " + seed + ": heirs of " + h, x.house(h, 4), Math.max(0, heirs[h]));
                    CHECK.due("seed " + seed + ": in " + h, x.house(h, 5), heirs[h] >= 0 ? 1 : 0);
                }
            }
        }
        // 0 and 100 take no number: the second house sees the first one
        long first = Check.drawn(Check.nextNumber(5));
        for (String e : new String[] {"0", "100", "0 - 5", "9999"}) {
            BidLines x = Check.of("house a 0 0 1 20 9;house b 1 0 1 20 9;seed 5;law death (bound = 0) * (" + e
                    + ") + bound * " + first + ";");
            x.go(1);
            CHECK.due(e + " takes no number", x.house(1, 4), 9);
            x = Check.of("house a 0 0 1 20 9;house b 1 0 1 20 9;seed 5;law death (bound = 0) * (" + e
                    + ") + bound * " + (first + 1) + ";");
            x.go(1);
            CHECK.due(e + " takes no number: one more", x.house(1, 4), 8);
            CHECK.due(e + " for the first one", x.house(0, 4), e.length() == 1 || e.length() == 5 ? 9 : 8);
        }
    }

    private static void heads() {
        BidLines x = Check.of("house a 0 0 1 98 1;house b 0 0 1 39 1;law death 0;");
        x.go(1);
        CHECK.due("age 99", x.house(0, 3), 99);
        CHECK.due("age 40", x.house(1, 3), 40);
        x.go(1);
        CHECK.due("99 at most", x.house(0, 3), 99);
        // without a law, and with an ERROR: age less 40
        for (String law : new String[] {"", "law death 1 / 0;"}) {
            x = Check.of("house a 0 0 1 88 1;house b 0 0 1 89 1;house c 0 0 1 39 1;" + law);
            CHECK.due("49 isn't 50", x.ahead(1, 3), 1);
            CHECK.due("40 is 0", x.lives(2, 1, 0), 1);
            CHECK.due("49 of 100", x.lives(0, 1, 0), 51);
            CHECK.due("50 of 100", x.lives(1, 1, 1), 2);
        }
        // age of the death law is with this year
        x = Check.of("house a 0 0 1 30 1;law death (age = 31) * 100;");
        x.go(1);
        CHECK.due("died at 31", x.house(0, 3), 20);
        CHECK.due("heirs", x.house(0, 4), 0);
    }

    private static void handing() {
        BidLines x = Check.of("house a 50 60 7 30 3;house b 10 0 1 20 0;open 1;law death (bound = 50) * 100;"
                + "law will age * 100 + heirs * 10 + bid;");
        x.go(1);
        CHECK.due("will: age of who died, heirs that are left", x.house(0, 0), 3121);
        CHECK.due("age of the heir", x.house(0, 3), 20);
        CHECK.due("heirs", x.house(0, 4), 2);
        CHECK.due("worth", x.house(0, 1), 60);
        x = Check.of("house a 50 60 7 30 3;law death 100;law will bound * 9999;");
        x.go(1);
        CHECK.due("9999 at most", x.house(0, 0), 9999);
        x = Check.of("house a 50 60 7 30 3;law death 100;law will bound - 51;");
        x.go(1);
        CHECK.due("0 at least", x.house(0, 0), 0);
        x = Check.of("house a 50 60 7 30 3;law death 100;law will bound / (heirs - 2);");
        x.go(1);
        CHECK.due("with an error", x.house(0, 0), 50);
        x = Check.of("house a 50 60 7 30 3;law death 100;");
        x.go(1);
        CHECK.due("without", x.house(0, 0), 50);
    }

    private static void endings() {
        BidLines x = Check.of("house a 50 60 7 30 0;house b 9 60 7 30 1;law death (bound = 50 and year = 1) * 100;"
                + "calls 2;open 5;law will 3;");
        x.go(1);
        CHECK.due("a leads", x.count(5), 0);
        x.go(1);
        CHECK.due("a is ended", x.house(0, 5), 0);
        CHECK.due("its bound stays", x.house(0, 0), 50);
        CHECK.due("one is in", x.count(8), 1);
        CHECK.due("the bid stays led", x.count(5), 0);
        CHECK.due("called once", x.count(6), 1);
        x.go(1);
        CHECK.due("falls to who is ended", x.falls(1), 0);
        CHECK.due("has fallen", x.count(7), 1);
        CHECK.due("died", x.count(9), 1);
        x.go(5);
        CHECK.due("nobody grows older then", x.house(1, 3), 33);
        CHECK.due("an ended one doesn't either", x.house(0, 3), 32);
    }

    private static void turns() {
        BidLines x = Check.of("house a 0 0 1 20 1;house b 0 0 1 20 1;house c 0 0 1 20 1;law death 0;");
        for (int i = 0; i < 7; i++) {
            CHECK.due("turn in year " + i, x.turn(), i % 3);
            x.go(1);
        }
        CHECK.due("year 7", x.turn(), 1);
        x.marry(0, 1);
        CHECK.due("b is ended", x.turn(), 2);
        x.go(1);
        x.marry(0, 2);
        CHECK.due("behind the last one from 0 on", x.turn(), 0);
        x = Check.of("house a 0 0 1 20 0;law death 100;");
        x.go(1);
        CHECK.due("none is in", x.turn(), -2);
        CHECK.due("none told", new BidLines().turn(), -2);
    }

    private static void raising() {
        // the turn is that of those who are in behind the deaths of the year
        BidLines x = Check.of("house a 50 0 5 20 0;house b 50 0 7 20 0;law death (worth = 0 and bid = 0 and age = 21 "
                + "and heirs = 0 and year = 0) * 100;");
        x.go(1);
        CHECK.due("none is left to raise", x.count(4), 0);
        x = Check.of("house a 50 1 5 20 0;house b 50 0 7 20 0;law death worth * 100;");
        x.go(1);
        CHECK.due("b has the turn of a", x.count(4), 7);
        CHECK.due("b leads", x.count(5), 1);
        x.go(1);
        CHECK.due("who leads doesn't raise", x.count(4), 7);
        // bid and step no more than bound
        CHECK.due("step is bound", Check.of("house a 5 1 5 20 0;").ahead(1, 0), 5);
        CHECK.due("step is more", Check.of("house a 4 1 5 20 0;").ahead(1, 0), 0);
        // the law
        CHECK.due("raise 0", Check.of("house a 5 1 5 20 0;law raise 0;").ahead(1, 0), 0);
        CHECK.due("raise below 0", Check.of("house a 5 1 5 20 0;law raise 0 - 1;").ahead(1, 0), 5);
        CHECK.due("raise with an error", Check.of("house a 5 1 5 20 0;law raise 1 / 0;").ahead(1, 0), 5);
        CHECK.due("age of raise", Check.of("house a 5 1 5 20 0;law raise age = 21;").ahead(1, 0), 5);
        CHECK.due("bid of raise", Check.of("house a 5 1 5 20 0;law raise bid = 0;").ahead(1, 0), 5);
    }

    private static void calling() {
        BidLines x = Check.of("house a 10 0 5 20 0;house b 10 0 4 20 0;calls 3;law death 0;");
        int[] bid = {5, 9, 9, 9, 9, 9};
        int[] called = {0, 0, 1, 2, 3, 3};
        for (int i = 0; i < 6; i++) {
            x.go(1);
            CHECK.due("bid behind year " + i, x.count(4), bid[i]);
            CHECK.due("called behind year " + i, x.count(6), called[i]);
            CHECK.due("fallen behind year " + i, x.count(7), i >= 4 ? 1 : 0);
        }
        CHECK.due("years go on", x.count(3), 6);
        CHECK.due("raised by b", x.house(1, 6), 1);
        CHECK.due("last bid of a", x.house(0, 7), 5);
        CHECK.due("last bid of b", x.house(1, 7), 9);
        // nobody leads: nothing is called
        x = Check.of("house a 0 0 5 20 0;calls 1;law death 0;");
        x.go(50);
        CHECK.due("not called", x.count(6), 0);
        CHECK.due("not fallen", x.count(7), 0);
        // a raise takes the calls back
        x = Check.of("house a 99 0 5 20 0;house b 99 0 4 20 0;calls 3;law death 0;law raise year = 0 or year = 3;");
        x.go(3);
        CHECK.due("called twice", x.count(6), 2);
        x.go(1);
        CHECK.due("nothing called", x.count(6), 0);
        CHECK.due("b raised", x.count(4), 9);
    }

    private static void nods() {
        BidLines x = Check.of(THREE);
        CHECK.due("nod c", x.nod(2), 25);
        CHECK.due("it leads", x.nod(2), -2);
        CHECK.due("nod a", x.nod(0), 35);
        CHECK.due("beyond its bound", x.nod(2), -2);
        CHECK.due("no such house", x.nod(3), -1);
        CHECK.due("no such house", x.nod(-1), -1);
        CHECK.due("leads", x.count(5), 0);
        CHECK.due("raised", x.house(0, 6), 1);
        CHECK.due("last", x.house(0, 7), 35);
        x.marry(0, 1);
        CHECK.due("not in", x.nod(1), -2);
        x = Check.of("house a 10 0 5 20 0;house b 10 0 5 20 0;law raise 0;law death 0;calls 2;");
        CHECK.due("whatever the law", x.nod(1), 5);
        x.go(1);
        CHECK.due("called once: a nod is ahead of the year", x.count(6), 1);
        CHECK.due("up to its bound", x.nod(0), 10);
        CHECK.due("nothing called", x.count(6), 0);
        x.go(2);
        CHECK.due("fallen", x.nod(1), -2);
        CHECK.due("fallen, no such house", x.nod(2), -1);
    }

    private static void marriages() {
        BidLines x = Check.of("house a 100 200 10 30 5;house b 95 150 20 50 6;house c 30 500 5 89 2;calls 1;law death 0;");
        CHECK.due("alike", x.marry(0, 0), false);
        CHECK.due("no such", x.marry(0, 3), false);
        CHECK.due("no such", x.marry(-1, 0), false);
        x.nod(1);
        CHECK.due("b into a", x.marry(0, 1), true);
        int[] a = {195, 200, 10, 30, 9, 1, 0, -1};
        int[] b = {95, 150, 20, 50, 6, 0, 1, 20};
        for (int i = 0; i < 8; i++) {
            CHECK.due("house(0, " + i + ")", x.house(0, i), a[i]);
            CHECK.due("house(1, " + i + ")", x.house(1, i), b[i]);
        }
        CHECK.due("a leads", x.count(5), 0);
        CHECK.due("b isn't in", x.marry(0, 1), false);
        CHECK.due("b isn't in", x.marry(1, 2), false);
        CHECK.due("a into c", x.marry(2, 0), true);
        CHECK.due("c leads", x.count(5), 2);
        x = Check.of("house a 100 200 10 30 5;house b 95 150 20 50 4;law death 0;calls 1;");
        x.will(0, 9000);
        x.will(1, 999);
        CHECK.due("sum", x.marry(1, 0), true);
        CHECK.due("9999 fits", x.house(1, 0), 9999);
        CHECK.due("9 heirs", x.house(1, 4), 9);
        x.undo();
        x.will(1, 1000);
        x.marry(1, 0);
        CHECK.due("9999 at most", x.house(1, 0), 9999);
        CHECK.due("nobody leads", x.count(5), -1);
    }

    private static void wills() {
        BidLines x = Check.of(THREE);
        CHECK.due("will", x.will(0, 101), true);
        CHECK.due("it is so", x.will(0, 101), false);
        CHECK.due("bound", x.house(0, 0), 101);
        CHECK.due("0", x.will(0, 0), true);
        CHECK.due("9999", x.will(0, 9999), true);
        CHECK.due("10000", x.will(0, 10000), false);
        CHECK.due("-1", x.will(0, -1), false);
        CHECK.due("no such", x.will(3, 1), false);
        CHECK.due("no such", x.will(-1, 1), false);
        CHECK.due("what can be undone", x.count(12), 3);
        x.marry(1, 0);
        CHECK.due("not in", x.will(0, 5), false);
    }

    private static void children() {
        BidLines x = Check.of("house a 1 1 1 1 7;house b 1 1 1 1 0;");
        CHECK.due("8", x.child(0), 8);
        CHECK.due("9", x.child(0), 9);
        CHECK.due("it has 9", x.child(0), -1);
        CHECK.due("no such", x.child(2), -1);
        CHECK.due("no such", x.child(-1), -1);
        x.marry(0, 1);
        CHECK.due("not in", x.child(1), -1);
        CHECK.due("heirs", x.house(0, 4), 9);
    }

    private static void going() {
        BidLines x = Check.of(THREE);
        CHECK.due("go(0)", x.go(0), 0);
        CHECK.due("go(-1)", x.go(-1), -1);
        CHECK.due("go(100)", x.go(100), -1);
        CHECK.due("the year stays", x.count(3), 0);
        for (int i = 1; i <= 90; i++) {
            CHECK.due("go(99)", x.go(99), 99 * i);
        }
        CHECK.due("8910 and 91", x.go(91), -1);
        CHECK.due("the year stays", x.count(3), 8910);
        CHECK.due("8910 and 90", x.go(90), 9000);
        CHECK.due("behind 9000", x.go(1), -1);
        CHECK.due("none", x.go(0), 9000);
    }

    private static void undoing() {
        BidLines x = Check.of("house a 500 1 10 20 1;house b 500 1 20 20 2;law death 0;calls 5;");
        CHECK.due("none", x.undo(), -1);
        x.nod(0);
        x.go(1);
        x.nod(0);
        CHECK.due("b raised", x.count(5), 0);
        CHECK.due("a year went by", x.undo(), -1);
        x = Check.of("house a 500 1 10 20 1;house b 500 1 20 20 2;law death 0;calls 5;law raise 0;");
        x.nod(0);
        x.go(2);
        CHECK.due("called", x.count(6), 2);
        CHECK.due("nod", x.nod(1), 30);
        CHECK.due("go(0)", x.go(0), 2);
        CHECK.due("marry", x.marry(0, 1), true);
        CHECK.due("refused", x.marry(0, 1), false);
        CHECK.due("child", x.child(0), 4);
        CHECK.due("can be undone", x.count(12), 3);
        CHECK.due("undo the child", x.undo(), 2);
        CHECK.due("heirs", x.house(0, 4), 3);
        CHECK.due("undo the marriage", x.undo(), 1);
        int[] b = {500, 1, 20, 22, 2, 1, 1, 30};
        for (int i = 0; i < 8; i++) {
            CHECK.due("house(1, " + i + ")", x.house(1, i), b[i]);
        }
        CHECK.due("heirs", x.house(0, 4), 1);
        CHECK.due("bound", x.house(0, 0), 500);
        CHECK.due("b leads", x.count(5), 1);
        CHECK.due("undo the nod", x.undo(), 0);
        int[] counts = {2, 0, 2, 2, 10, 0, 2, 0, 2};
        for (int i = 0; i < counts.length; i++) {
            CHECK.due("count(" + i + ")", x.count(i), counts[i]);
        }
        CHECK.due("last bid", x.house(1, 7), -1);
        CHECK.due("raised", x.house(1, 6), 0);
        CHECK.due("none is left", x.undo(), -1);
        x.nod(1);
        x.nod(0);
        x.nod(1);
        x.nod(0);
        x.undo();
        CHECK.due("raised twice", x.house(0, 6), 2);
        CHECK.due("last bid", x.house(0, 7), 40);
        x.undo();
        CHECK.due("raised once", x.house(1, 6), 1);
        CHECK.due("last bid", x.house(1, 7), 30);
        CHECK.due("bid", x.count(4), 40);
        undoingTwenty();
    }

    private static void undoingTwenty() {
        BidLines x = Check.of("house a 0 1 10 20 1;");
        for (int i = 1; i <= 23; i++) {
            x.will(0, i);
            CHECK.due("can be undone", x.count(12), Math.min(20, i));
        }
        for (int i = 1; i <= 20; i++) {
            CHECK.due("undo", x.undo(), 20 - i);
            CHECK.due("bound", x.house(0, 0), 23 - i);
        }
        CHECK.due("20 at most", x.undo(), -1);
        CHECK.due("bound", x.house(0, 0), 3);
    }

    private static void images() {
        BidLines x = Check.of("house a 500 1 10 20 9;house b 500 1 20 20 9;part p 4 0;law death 50;law will bound - 1;"
                + "calls 20;seed 3;law raise year < 1;");
        CHECK.due("none", x.back(), -1);
        x.go(2);
        x.nod(1);
        x.go(2);
        x.child(0);
        CHECK.due("keep", x.keep(), 4);
        CHECK.due("called", x.count(6), 2);
        CHECK.due("keep leaves what can be undone", x.count(12), 1);
        long[] kept = standing(x);
        x.see(1, 1, true);
        x.go(9);
        x.marry(0, 1);
        long[] later = standing(x);
        CHECK.due("back", x.back(), 4);
        same("back", kept, standing(x));
        CHECK.due("nothing to undo", x.undo(), -1);
        CHECK.due("seen stays", x.count(10), 1);
        x.go(9);
        x.marry(0, 1);
        same("the same numbers come again", later, standing(x));
        CHECK.due("back again", x.back(), 4);
        x.go(1);
        CHECK.due("in place of one ahead", x.keep(), 5);
        x.go(1);
        CHECK.due("back", x.back(), 5);
    }

    private static long[] standing(BidLines x) {
        long[] all = new long[29];
        for (int i = 0; i < 10; i++) {
            all[i] = x.count(i);
        }
        for (int i = 0; i < 16; i++) {
            all[10 + i] = x.house(i / 8, i % 8);
        }
        for (int i = 0; i < 3; i++) {
            all[26 + i] = x.part(0, i);
        }
        return all;
    }

    private static void same(String what, long[] one, long[] other) {
        for (int i = 0; i < one.length; i++) {
            CHECK.due(what + " " + i, other[i], one[i]);
        }
    }

    private static void counts() {
        BidLines x = Check.of(THREE + "law raise bid < 90;");
        x.go(2);
        x.see(1, 1, true);
        x.strike(0);
        x.known(1);
        x.child(0);
        // seed 0: the first number is 0, so b dies at 51; then 12345 times, and so on
        int[] counts = {3, 2, 3, 2, 30, 0, 1, 0, 2, 1, 2, 1, 1};
        for (int i = 0; i < counts.length; i++) {
            CHECK.due("count(" + i + ")", x.count(i), counts[i]);
        }
        CHECK.due("count(13)", x.count(13), -1);
        CHECK.due("count(-1)", x.count(-1), -1);
        CHECK.due("count(least)", x.count(Integer.MIN_VALUE), -1);
    }
}
