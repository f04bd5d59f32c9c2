/** Terms, ==== 3 and ==== 4: what was SEEN and is KNOWN, undoing, the IMAGE; sentence by sentence. */
public final class TermsOfSeenTest {
    private static final Check CHECK = new Check();
    /** a bids 30 in YEAR 0, b 50 in YEAR 1, c can't, a 60 in YEAR 3, b 80, c can't, a 90. */
    private static final String THREE = "house a 100 200 10 30 1;house b 95 150 20 50 0;house c 30 500 5 20 2;calls 2;"
            + "open 20;law death 0;";

    public static void main(String[] args) throws IllegalAccessException {
        Sentences.run(TermsOfSeenTest.class, CHECK);
    }

    @Says(promise = 0, sentence = "SEEN, at most 24, numbered from 0 on:")
    static void atMost24() {
        BidLines x = Check.of(THREE);
        for (int i = 0; i < 24; i++) {
            CHECK.due("its number", i % 3 == 2 ? x.strike(i - 1) : x.see(1, 30, true), i);
            CHECK.due("how many", x.count(10), i + 1);
        }
        CHECK.due("a 25th", x.see(1, 30, true), -1);
        CHECK.due("a 25th STRIKE", x.strike(0), -1);
        CHECK.due("24", x.count(10), 24);
        // the 24th counts: a STRIKE of what alone isn't so
        x = Check.of(THREE);
        x.see(1, 31, true);
        for (int i = 1; i < 23; i++) {
            x.see(1, 30, true);
        }
        CHECK.due("it isn't so", x.bounds(1), 0);
        CHECK.due("the 24th", x.strike(0), 23);
        CHECK.due("all are so", x.bounds(1), 1023);
    }

    @Says(promise = 0, sentence = "behind so many YEARS 1 .. 99")
    static void behindSoManyYears() {
        BidLines x = Check.of(THREE);
        CHECK.due("0", x.see(0, 5, true), -1);
        CHECK.due("100", x.see(100, 5, true), -1);
        CHECK.due("none", x.count(10), 0);
        // a RAISES in one YEAR alone
        for (int year : new int[] {0, 1, 50, 97, 98}) {
            x = Check.of("house a 9 0 1 20 0;law death 0;law raise year = " + year + ";");
            if (year > 0) {
                CHECK.due("ahead of YEAR " + year, x.see(year, 1, false), 0);
            }
            CHECK.due("not yet", x.bounds(0), 1023);
            x.see(year + 1, 1, true);
            CHECK.due("behind YEAR " + year + ": any BOUND but 0", x.bounds(0), 1022);
        }
    }

    @Says(promise = 0, sentence = "(as it goes from the TEXT on, nothing done by call)")
    static void fromTheTextOn() {
        BidLines x = Check.of(THREE);
        x.see(2, 50, true);
        CHECK.due("b may go to 60 and more", x.bounds(1), 1016);
        x.nod(0);
        x.will(0, 0);
        x.go(5);
        x.marry(1, 0);
        x.keep();
        CHECK.due("as ever", x.bounds(1), 1016);
        x.back();
        CHECK.due("as ever", x.bounds(1), 1016);
        // as it goes: by numbers it DIES in YEAR 0, as the first number from seed 0 on is 0
        x = Check.of("house a 0 0 1 20 0;law death 49;");
        x.see(1, 1, true);
        CHECK.due("nobody DIES of 49", x.bounds(0), 1022);
        x = Check.of("house a 0 0 1 20 0;law death 50;");
        x.see(1, 1, true);
        CHECK.due("it DIES of 50", x.bounds(0), 0);
    }

    @Says(promise = 0, sentence = "the BID was so much 0 .. 9999 at least, or less.")
    static void soMuchAtLeastOrLess() {
        BidLines x = Check.of(THREE);
        CHECK.due("-1", x.see(1, -1, true), -1);
        CHECK.due("10000", x.see(1, 10000, true), -1);
        CHECK.due("-1", x.see(1, -1, false), -1);
        CHECK.due("10000", x.see(1, 10000, false), -1);
        // behind one YEAR the BID is 30, whatever b may
        int[] bid = {0, 29, 30, 31, 9999};
        int[] atLeast = {1023, 1023, 1023, 0, 0};
        for (int i = 0; i < bid.length; i++) {
            x = Check.of(THREE);
            x.see(1, bid[i], true);
            CHECK.due(bid[i] + " at least", x.bounds(1), atLeast[i]);
            x = Check.of(THREE);
            x.see(1, bid[i], false);
            CHECK.due("less than " + bid[i], x.bounds(1), 1023 - atLeast[i]);
        }
    }

    @Says(promise = 0, sentence = "A STRIKE of one.")
    static void aStrikeOfOne() {
        BidLines x = Check.of(THREE);
        x.see(1, 31, true);
        x.see(1, 32, true);
        CHECK.due("its number", x.strike(0), 2);
        CHECK.due("the second one isn't so", x.bounds(1), 0);
        CHECK.due("its number", x.strike(1), 3);
        CHECK.due("both are STRUCK", x.bounds(1), 1023);
        x.see(1, 31, true);
        CHECK.due("another one counts", x.bounds(1), 0);
    }

    @Says(promise = 0,
            sentence = "KNOWN by n (all at first): the first n that aren't STRUCK by one of these")
    static void knownByN() {
        BidLines x = Check.of(THREE);
        // 0: b may go to 50; 1: b may not go to 80 behind 5 YEARS; 2: a STRIKE of 0; 3: nothing is so
        x.see(2, 50, true);
        x.see(5, 80, false);
        x.strike(0);
        x.see(1, 31, true);
        CHECK.due("all at first", x.bounds(1), 0);
        // BOUNDS of b: 60 and more; of these 60; less than 80 alone
        int[] due = {1023, 1016, 8, 15, 0};
        for (int n : new int[] {0, 1, 2, 3, 4, 3, 2, 1, 0}) {
            CHECK.due("known(" + n + ")", x.known(n), true);
            CHECK.due("KNOWN by " + n, x.bounds(1), due[n]);
            CHECK.due("by how many", x.count(11), n);
        }
    }

    @Says(promise = 0,
            sentence = "(a STRIKE may be STRUCK: then it doesn't count; asked from the last one on).")
    static void aStrikeMayBeStruck() {
        BidLines x = Check.of(THREE);
        x.see(1, 31, true);
        // STRIKES of one another: 1 of 0, 2 of 1, 3 of 2 and so on
        for (int i = 1; i < 24; i++) {
            CHECK.due("strike", x.strike(i - 1), i);
            CHECK.due("STRUCK by an odd number of them", x.bounds(1), i % 2 == 1 ? 1023 : 0);
        }
        // KNOWN by fewer of them
        for (int n = 1; n <= 24; n++) {
            x.known(n);
            CHECK.due("KNOWN by " + n, x.bounds(1), n % 2 == 0 ? 1023 : 0);
        }
        // two STRIKES of one: one of them is STRUCK, then both
        x = Check.of(THREE);
        x.see(1, 31, true);
        x.strike(0);
        x.strike(0);
        x.strike(1);
        CHECK.due("the second one counts", x.bounds(1), 1023);
        x.strike(2);
        CHECK.due("none counts", x.bounds(1), 0);
        x.strike(4);
        CHECK.due("the second one again", x.bounds(1), 1023);
    }

    @Says(promise = 0, sentence = "BOUNDS of a HOUSE: 0, 20, .. 180 (bits 0 .. 9) in place of the told one, by which all "
            + "KNOWN ones are so.")
    static void boundsOfAHouse() {
        // a may RAISE if its BOUND is its STEP at least
        for (int step = 1; step <= 99; step++) {
            BidLines x = Check.of("house a 500 0 " + step + " 20 0;law death 0;");
            x.see(1, 1, true);
            int bits = 0;
            for (int i = 0; i < 10; i++) {
                bits |= 20 * i >= step ? 1 << i : 0;
            }
            CHECK.due("STEP " + step, x.bounds(0), bits);
        }
        // up to 180
        int[] open = {159, 160, 161, 179, 180};
        int[] due = {768, 512, 512, 512, 0};
        for (int i = 0; i < open.length; i++) {
            BidLines x = Check.of("house a 500 0 1 20 0;law death 0;open " + open[i] + ";");
            x.see(1, open[i] + 1, true);
            CHECK.due("open " + open[i], x.bounds(0), due[i]);
        }
        // a law of raising sees it, too
        BidLines x = Check.of("house a 500 0 1 20 0;law death 0;law raise bound = 140;");
        x.see(1, 1, true);
        CHECK.due("140 alone", x.bounds(0), 128);
        x.see(1, 1, false);
        CHECK.due("all KNOWN ones", x.bounds(0), 0);
        CHECK.due("of another one the told one stays", Check.of(THREE).bounds(2), 1023);
    }

    // ---- ==== 4

    @Says(promise = 0, sentence = "Nods, marriages, wills, children by call can be undone, the latest first")
    static void undoneTheLatestFirst() {
        BidLines x = Check.of(THREE);
        x.go(1);
        x.nod(1);
        x.go(1);
        String[] stood = new String[8];
        // a LEADS at 60 behind it, b at 80, by marriage c; each changes something
        for (int i = 0; i < 8; i++) {
            stood[i] = Check.picture(x);
            switch (i) {
                case 0 -> CHECK.due("nod", x.nod(0), 60);
                case 1 -> CHECK.due("will", x.will(0, 0), true);
                case 2 -> CHECK.due("child", x.child(2), 3);
                case 3 -> CHECK.due("nod", x.nod(1), 80);
                case 4 -> CHECK.due("marry", x.marry(2, 1), true);
                case 5 -> CHECK.due("will", x.will(2, 9999), true);
                case 6 -> CHECK.due("marry", x.marry(0, 2), true);
                default -> CHECK.due("child", x.child(0), 5);
            }
        }
        for (int i = 7; i >= 0; i--) {
            CHECK.due("undo", x.undo(), i);
            CHECK.dueSame("all ahead of call " + i, Check.picture(x), stood[i]);
        }
        CHECK.due("none", x.undo(), -1);
    }

    @Says(promise = 0, sentence = "(20 at most),")
    static void undone20AtMost() {
        BidLines x = Check.of("house a 0 1 10 20 1;");
        for (int i = 1; i <= 19; i++) {
            x.will(0, i);
        }
        CHECK.due("19", x.count(12), 19);
        for (int i = 20; i <= 45; i++) {
            x.will(0, i);
            CHECK.due("20 at most", x.count(12), 20);
        }
        for (int i = 1; i <= 20; i++) {
            CHECK.due("undo", x.undo(), 20 - i);
            CHECK.due("BOUND", x.house(0, 0), 45 - i);
        }
        CHECK.due("not one more", x.undo(), -1);
        CHECK.due("BOUND", x.house(0, 0), 25);
    }

    @Says(promise = 0, sentence = "if no YEAR went by since.")
    static void undoneInTheirYear() {
        BidLines x = Check.of(THREE);
        x.child(0);
        x.go(0);
        CHECK.due("no YEAR", x.count(12), 1);
        x.go(-1);
        x.go(100);
        CHECK.due("no YEAR", x.count(12), 1);
        x.go(1);
        CHECK.due("a YEAR", x.count(12), 0);
        CHECK.due("none", x.undo(), -1);
        CHECK.due("HEIRS stay", x.house(0, 4), 2);
        x.child(0);
        CHECK.due("those since", x.undo(), 0);
        CHECK.due("HEIRS", x.house(0, 4), 2);
        // asking doesn't matter, and neither does an IMAGE that is kept
        x.child(0);
        x.ahead(9, 0);
        x.chance(1, 9, 0);
        x.keep();
        CHECK.due("no YEAR", x.undo(), 0);
    }

    @Says(promise = 0, sentence = "An IMAGE keeps all but what was SEEN.")
    static void anImageKeepsAll() {
        BidLines x = Check.of("house a 500 1 10 20 9;house b 500 1 20 20 9;house c 0 0 1 20 0;part p 4 0;part q 99 0;"
                + "law death 50 - 50 * (heirs = 0);law will bound - 1;calls 20;seed 3;law raise year < 3;");
        x.see(1, 10, true);
        x.go(2);
        x.nod(1);
        x.marry(0, 2);
        x.go(2);
        String kept = Check.picture(x);
        CHECK.due("keep", x.keep(), 4);
        x.go(3);
        x.will(0, 3);
        x.marry(1, 0);
        x.see(1, 11, true);
        x.strike(0);
        String later = Check.picture(x);
        CHECK.due("back", x.back(), 4);
        CHECK.due("SEEN stays", x.count(10), 3);
        CHECK.due("and is KNOWN", x.count(11), 3);
        // the same but for what was SEEN: 1 then, 3 now
        CHECK.dueSame("all", Check.picture(x), kept.replaceFirst("^((\\d+ |-1 ){10})1 1 ", "$13 3 "));
        // the numbers go on as they did
        x.go(3);
        x.will(0, 3);
        x.marry(1, 0);
        CHECK.dueSame("all again", Check.picture(x), later);
    }
}
