/** Promises 36 to 45: what was seen, chance, what is tried otherwise, undoing, images, counts; each sentence. */
public final class Promises36To45Test {
    private static final Check CHECK = new Check();

    public static void main(String[] args) throws IllegalAccessException {
        Sentences.run(Promises36To45Test.class, CHECK);
    }

    // ---- 36 to 39: see, strike, known, bounds

    @Says(promise = 36, sentence = "SEEN: its number;")
    static void p36See() {
        BidLines x = Check.of(Check.DUEL);
        int[][] seen = {{1, 0}, {1, 9999}, {99, 0}, {99, 9999}, {50, 20}};
        for (int i = 0; i < seen.length; i++) {
            CHECK.due("see(" + seen[i][0] + ", " + seen[i][1] + ")", x.see(seen[i][0], seen[i][1], i % 2 == 0), i);
        }
        CHECK.due("behind a STRIKE", x.strike(0), 5);
        CHECK.due("the next number", x.see(1, 0, true), 6);
        CHECK.due("SEEN", x.count(10), 7);
    }

    @Says(promise = 36, sentence = "NONE: no such ones,")
    static void p36NoSuchOnes() {
        BidLines x = Check.of(Check.DUEL);
        for (int years : new int[] {0, -1, 100, 101, Check.LEAST, Check.GREATEST}) {
            CHECK.due("see(" + years + ", 5, true)", x.see(years, 5, true), -1);
            CHECK.due("see(" + years + ", 5, false)", x.see(years, 5, false), -1);
        }
        for (int bid : new int[] {-1, 10000, 10001, Check.LEAST, Check.GREATEST}) {
            CHECK.due("see(1, " + bid + ", true)", x.see(1, bid, true), -1);
            CHECK.due("see(1, " + bid + ", false)", x.see(1, bid, false), -1);
        }
        CHECK.due("none SEEN", x.count(10), 0);
        CHECK.due("any BOUND", x.bounds(0), 1023);
    }

    @Says(promise = 36, sentence = "or there are 24.")
    static void p36ThereAre24() {
        BidLines x = Check.of(Check.DUEL);
        for (int i = 0; i < 24; i++) {
            CHECK.due("see", x.see(1, 0, true), i);
        }
        CHECK.due("the 25th", x.see(1, 0, true), -1);
        CHECK.due("the 25th", x.see(1, 9999, true), -1);
        CHECK.due("SEEN", x.count(10), 24);
        CHECK.due("none of them is otherwise", x.bounds(0), 1023);
        Check.tell(x, Check.DUEL);
        CHECK.due("from 0 on again", x.see(1, 0, true), 0);
    }

    @Says(promise = 37, sentence = "A STRIKE: its number;")
    static void p37Strike() {
        BidLines x = Check.of(Check.DUEL);
        x.see(1, 99, true);
        CHECK.due("of 0", x.strike(0), 1);
        CHECK.due("of a STRIKE", x.strike(1), 2);
        CHECK.due("of 0 again", x.strike(0), 3);
        CHECK.due("SEEN", x.count(10), 4);
        x.known(0);
        CHECK.due("of one that isn't KNOWN", x.strike(3), 4);
    }

    @Says(promise = 37, sentence = "NONE: no such one SEEN,")
    static void p37NoSuchOne() {
        BidLines x = Check.of(Check.DUEL);
        CHECK.due("none is", x.strike(0), -1);
        x.see(1, 0, true);
        for (int one : new int[] {-1, 1, 2, 23, 24, 25, Check.LEAST, Check.GREATEST}) {
            CHECK.due("strike(" + one + ")", x.strike(one), -1);
        }
        CHECK.due("SEEN", x.count(10), 1);
    }

    @Says(promise = 37, sentence = "or there are 24.")
    static void p37ThereAre24() {
        BidLines x = Check.of(Check.DUEL);
        for (int i = 0; i < 23; i++) {
            x.see(1, 99, true);
        }
        CHECK.due("the 24th", x.strike(0), 23);
        for (int i = 1; i < 24; i++) {
            CHECK.due("the 25th", x.strike(i), -1);
        }
        CHECK.due("SEEN", x.count(10), 24);
        CHECK.due("the others aren't STRUCK", x.bounds(0), 0);
    }

    @Says(promise = 38, sentence = "KNOWN by n from now on")
    static void p38Known() {
        BidLines x = Check.of(Check.DUEL);
        CHECK.due("by none of none", x.known(0), true);
        x.see(1, 99, true);
        CHECK.due("by none still", x.count(11), 0);
        CHECK.due("any BOUND", x.bounds(0), 1023);
        CHECK.due("known(1)", x.known(1), true);
        x.strike(0);
        CHECK.due("by 1 still", x.count(11), 1);
        CHECK.due("its STRIKE isn't KNOWN", x.bounds(0), 0);
        CHECK.due("known(2)", x.known(2), true);
        CHECK.due("it is KNOWN", x.bounds(0), 1023);
        x.go(9);
        x.nod(1);
        CHECK.due("by 2 still", x.count(11), 2);
    }

    @Says(promise = 38, sentence = "(-1: by all, also those to come): true;")
    static void p38KnownByAll() {
        BidLines x = Check.of(Check.DUEL);
        CHECK.due("by all of none", x.known(-1), true);
        x.see(1, 0, true);
        CHECK.due("one", x.count(11), 1);
        x.known(0);
        x.see(1, 99, true);
        CHECK.due("none", x.count(11), 0);
        CHECK.due("by all", x.known(-1), true);
        CHECK.due("two", x.count(11), 2);
        CHECK.due("no BOUND", x.bounds(0), 0);
        x.strike(1);
        CHECK.due("three", x.count(11), 3);
        CHECK.due("any BOUND", x.bounds(0), 1023);
    }

    @Says(promise = 38, sentence = "false: no such n.")
    static void p38NoSuchN() {
        BidLines x = Check.of(Check.DUEL);
        x.see(1, 0, true);
        x.see(1, 99, true);
        x.known(1);
        for (int n : new int[] {-2, -3, 3, 4, 24, 25, Check.LEAST, Check.GREATEST}) {
            CHECK.due("known(" + n + ")", x.known(n), false);
            CHECK.due("by 1 still", x.count(11), 1);
        }
        CHECK.due("any BOUND", x.bounds(0), 1023);
        CHECK.due("known(2)", x.known(2), true);
    }

    @Says(promise = 39, sentence = "BOUNDS (bits);")
    static void p39Bounds() {
        BidLines x = Check.of(Check.DUEL);
        CHECK.due("nothing SEEN", x.bounds(0), 1023);
        x.see(1, 10, true);
        CHECK.due("a may go to 10", x.bounds(0), 1022);
        CHECK.due("whatever b may", x.bounds(1), 1023);
        x.see(2, 15, true);
        CHECK.due("b may go to 15", x.bounds(1), 1022);
        x.see(3, 25, false);
        CHECK.due("a may not go to 25", x.bounds(0), 2);
        x.go(6);
        CHECK.due("when it has FALLEN, too", x.bounds(0), 2);
        x.marry(1, 0);
        CHECK.due("of one that is ENDED", x.bounds(0), 2);
        CHECK.due("no HOUSE changes", x.house(1, 0), 55);
    }

    @Says(promise = 39, sentence = "NONE: no such HOUSE.")
    static void p39NoSuchHouse() {
        BidLines x = Check.of(Check.DUEL);
        for (int house : Check.NO_HOUSE) {
            CHECK.due("bounds(" + house + ")", x.bounds(house), -1);
        }
        CHECK.due("no HOUSES", new BidLines().bounds(0), -1);
    }

    // ---- 40, 41: chance, tried

    /** Two houses with 0 and 2 heirs that DIE by a law of 30, ten times, the numbers of one behind those of another. */
    private static int drawnTenTimes(long seed, int n, int house) {
        long last = seed;
        int times = 0;
        for (int i = 0; i < 10; i++) {
            int[] heirs = {0, 2};
            for (int k = 0; k < 2 * n; k++) {
                if (heirs[k % 2] >= 0) {
                    last = Check.nextNumber(last);
                    heirs[k % 2] -= Check.drawn(last) < 30 ? 1 : 0;
                }
            }
            times += heirs[house] >= 0 ? 1 : 0;
        }
        return times;
    }

    @Says(promise = 40, sentence = "In how many of ten times drawn (numbers from a seed 0 .. 2147483647 on, one behind "
            + "another; n 1 .. 99 YEARS from now) a HOUSE is IN then;")
    static void p40Chance() {
        BidLines x = Check.of("house a 0 0 1 20 0;house b 0 0 1 20 2;law death 30;seed 5;");
        String stands = Check.picture(x);
        for (int seed : new int[] {0, 1, 2, 99999, 100000, 12345678, Check.GREATEST - 1, Check.GREATEST}) {
            for (int n : new int[] {1, 2, 3, 5, 98, 99}) {
                for (int house = 0; house < 2; house++) {
                    CHECK.due("chance(" + seed + ", " + n + ", " + house + ")", x.chance(seed, n, house),
                            drawnTenTimes(seed, n, house));
                }
            }
        }
        CHECK.dueSame("nothing changes", Check.picture(x), stands);
        CHECK.due("nobody DIES", Check.of("house a 0 0 1 20 0;law death 0;").chance(9, 99, 0), 10);
        CHECK.due("always", Check.of("house a 0 0 1 20 0;law death 100;").chance(9, 1, 0), 0);
        String late = "house a 0 0 1 20 0;law death (year = ";
        CHECK.due("in the 99th YEAR", Check.of(late + "98) * 100;").chance(9, 99, 0), 0);
        CHECK.due("in the 100th YEAR", Check.of(late + "99) * 100;").chance(9, 99, 0), 10);
        // from now on: b has lost its HEIRS
        x = Check.of("house a 0 0 1 20 0;house b 0 0 1 20 2;law death 30 * (year > 1) + 100 * (year < 2);");
        x.go(2);
        CHECK.due("a is ENDED", x.chance(3, 1, 0), 0);
        CHECK.due("b has none left", x.chance(3, 1, 1), inTenTimes(3));
        // the sale's own numbers stay where they are
        BidLines one = Check.of("house a 0 0 1 20 9;law death 50;seed 77;");
        BidLines other = Check.of("house a 0 0 1 20 9;law death 50;seed 77;");
        one.chance(5, 9, 0);
        one.go(9);
        other.go(9);
        CHECK.dueSame("numbers", Check.picture(one), Check.picture(other));
    }

    /** In how many of ten numbers from a seed on a head lives by a law of 30. */
    private static int inTenTimes(long seed) {
        long last = seed;
        int times = 0;
        for (int i = 0; i < 10; i++) {
            last = Check.nextNumber(last);
            times += Check.drawn(last) < 30 ? 0 : 1;
        }
        return times;
    }

    @Says(promise = 40, sentence = "NONE: no such ones.")
    static void p40NoSuchOnes() {
        BidLines x = Check.of(Check.DUEL);
        for (int seed : new int[] {-1, -2, Check.LEAST}) {
            CHECK.due("chance(" + seed + ", 1, 0)", x.chance(seed, 1, 0), -1);
        }
        for (int n : new int[] {0, -1, 100, 101, Check.LEAST, Check.GREATEST}) {
            CHECK.due("chance(1, " + n + ", 0)", x.chance(1, n, 0), -1);
        }
        for (int house : Check.NO_HOUSE) {
            CHECK.due("chance(1, 1, " + house + ")", x.chance(1, 1, house), -1);
        }
        x.marry(0, 1);
        CHECK.due("one that isn't IN is one", x.chance(1, 1, 1), 0);
    }

    @Says(promise = 41, sentence = "TRIED (n 0 .. 99);")
    static void p41Tried() {
        BidLines x = Check.of(Check.DUEL);
        String stands = Check.picture(x);
        int[] behindOne = {10, 10, 0, 1, 10};
        // BOUNDS of 999: 99 YEARS are fifty of a by 10 and 49 of b by 5
        int[] behindMany = {25, 25, 5, 25, 745};
        for (int what = 0; what < 5; what++) {
            CHECK.due("tried(" + what + ", 0, 0)", x.tried(what, 0, 0), 0);
            CHECK.due("tried(" + what + ", 0, 1)", x.tried(what, 0, 1), behindOne[what]);
            CHECK.due("tried(" + what + ", 0, 99)", x.tried(what, 0, 99), behindMany[what]);
        }
        CHECK.dueSame("nothing changes", Check.picture(x), stands);
        CHECK.due("as it goes", x.ahead(99, 0), 25);
        // what is tried once isn't tried in the next question: a bids 5 in YEAR 0, both are ENDED in YEAR 1
        for (int what = 0; what < 5; what++) {
            x = Check.of("house a 50 0 5 20 0;house b 50 0 5 20 0;law death year * 100;");
            x.tried(what, 0, 9);
            CHECK.due("BID behind tried(" + what + ")", x.ahead(9, 0), 5);
            CHECK.due("IN behind tried(" + what + ")", x.ahead(9, 2), 0);
            x.tried(what, 0, 9);
            x.go(9);
            CHECK.due("BID by numbers behind tried(" + what + ")", x.count(4), 5);
            CHECK.due("IN by numbers behind tried(" + what + ")", x.count(8), 0);
        }
    }

    @Says(promise = 41, sentence = "NONE: no such ones (i 0 of all but 2).")
    static void p41NoSuchOnes() {
        BidLines x = Check.of(Check.DUEL);
        for (int what = 0; what < 5; what++) {
            for (int n : new int[] {-1, 100, 101, Check.LEAST, Check.GREATEST}) {
                CHECK.due("tried(" + what + ", 0, " + n + ")", x.tried(what, 0, n), -1);
            }
            for (int i : Check.NO_HOUSE) {
                CHECK.due("tried(" + what + ", " + i + ", 1)", x.tried(what, i, 1), -1);
            }
            CHECK.due("tried(" + what + ", 1, 1)", x.tried(what, 1, 1), what == 2 ? 10 : -1);
        }
        for (int what : new int[] {-1, 5, 6, 32, Check.LEAST, Check.GREATEST}) {
            CHECK.due("tried(" + what + ", 0, 1)", x.tried(what, 0, 1), -1);
        }
        BidLines none = new BidLines();
        for (int what = 0; what < 5; what++) {
            CHECK.due("no HOUSES, tried(" + what + ", 0, 1)", none.tried(what, 0, 1), what == 2 ? -1 : 0);
        }
        x.marry(0, 1);
        CHECK.due("one that isn't IN is one", x.tried(2, 1, 1), 10);
    }

    // ---- 42 to 45: undo, keep, back, count

    @Says(promise = 42, sentence = "The latest is undone: how many are left;")
    static void p42Undo() {
        BidLines x = Check.of(Check.DUEL);
        x.nod(0);
        x.will(1, 99);
        x.child(1);
        x.marry(1, 0);
        CHECK.due("the marriage", x.undo(), 3);
        CHECK.dueHouse(x, 0, 30, 0, 10, 20, 0, 1, 1, 10);
        CHECK.dueHouse(x, 1, 99, 0, 5, 20, 1, 1, 0, -1);
        CHECK.due("a LEADS", x.count(5), 0);
        CHECK.due("the child", x.undo(), 2);
        CHECK.due("HEIRS", x.house(1, 4), 0);
        x.child(1);
        CHECK.due("a new one", x.undo(), 2);
        CHECK.due("the will", x.undo(), 1);
        CHECK.due("BOUND", x.house(1, 0), 25);
        CHECK.due("the nod", x.undo(), 0);
        CHECK.dueHouse(x, 0, 30, 0, 10, 20, 0, 1, 0, -1);
        CHECK.dueCounts(x, 2, 0, 1, 0, 0, -1, 0, 0, 2, 0, 0, 0, 0);
        // what was CALLED ahead of a nod is CALLED again
        x.nod(0);
        x.will(1, 0);
        x.go(2);
        x.will(1, 25);
        x.nod(1);
        CHECK.due("nothing CALLED", x.count(6), 0);
        CHECK.due("the nod", x.undo(), 1);
        CHECK.due("CALLED twice", x.count(6), 2);
        CHECK.due("a LEADS", x.count(5), 0);
    }

    @Says(promise = 42, sentence = "NONE: none.")
    static void p42None() {
        BidLines x = Check.of(Check.DUEL);
        CHECK.due("nothing done", x.undo(), -1);
        x.nod(5);
        x.marry(0, 0);
        x.will(0, 30);
        x.child(9);
        CHECK.due("nothing but what was refused", x.undo(), -1);
        x.child(0);
        x.undo();
        CHECK.due("undone already", x.undo(), -1);
        x.child(0);
        x.go(1);
        CHECK.due("a YEAR went by", x.undo(), -1);
        x.child(0);
        Check.tell(x, Check.DUEL);
        CHECK.due("another TEXT", x.undo(), -1);
        x.keep();
        x.child(0);
        x.back();
        CHECK.due("back in an IMAGE", x.undo(), -1);
        CHECK.dueCounts(x, 2, 0, 1, 0, 0, -1, 0, 0, 2, 0, 0, 0, 0);
    }

    @Says(promise = 43, sentence = "An IMAGE is kept (in place of one ahead): which YEAR it is.")
    static void p43Keep() {
        BidLines x = Check.of(Check.DUEL);
        CHECK.due("YEAR 0", x.keep(), 0);
        x.go(3);
        x.child(0);
        CHECK.due("YEAR 3", x.keep(), 3);
        CHECK.due("what can be undone stays", x.count(12), 1);
        x.go(50);
        CHECK.due("that of YEAR 3", x.back(), 3);
        CHECK.due("with the heir", x.house(0, 4), 1);
        CHECK.due("again", x.back(), 3);
        x.child(0);
        CHECK.due("in place of it", x.keep(), 3);
        x.undo();
        x.back();
        CHECK.due("with two", x.house(0, 4), 2);
    }

    @Says(promise = 44, sentence = "All (but what was SEEN) is as in the IMAGE (nothing to undo then): which YEAR it is;")
    static void p44Back() {
        BidLines x = Check.of(Check.DUEL + "part p 4 1;law will 7;");
        x.go(2);
        x.nod(0);
        x.keep();
        String kept = Check.picture(x);
        x.undo();
        x.marry(0, 1);
        x.go(7);
        CHECK.due("FALLEN", x.count(7), 1);
        x.child(0);
        CHECK.due("back", x.back(), 2);
        CHECK.due("nothing to undo", x.count(12), 0);
        CHECK.due("nothing to undo", x.undo(), -1);
        CHECK.dueSame("all", Check.picture(x), kept.replaceFirst("^((\\d+ |-1 ){12})1 ", "$10 "));
        // what was SEEN stays
        x.see(1, 99, true);
        CHECK.due("back", x.back(), 2);
        CHECK.due("SEEN", x.count(10), 1);
        CHECK.due("none is so", x.bounds(0), 0);
        // what is on the TAPE stays, and the latest FAULT
        Check.put(x, "!");
        x.back();
        CHECK.due("the TAPE", x.text(21), -2);
        CHECK.due("a FAULT", x.text(1), -1);
        CHECK.due("back", x.back(), 2);
        CHECK.due("the FAULT", x.fault(0), 1);
    }

    @Says(promise = 44, sentence = "NONE: there is none.")
    static void p44None() {
        BidLines x = new BidLines();
        CHECK.due("a new object", x.back(), -1);
        Check.tell(x, Check.DUEL);
        x.child(0);
        String stands = Check.picture(x);
        CHECK.due("a new TEXT", x.back(), -1);
        CHECK.dueSame("all stays", Check.picture(x), stands);
        x.keep();
        Check.tell(x, "!");
        CHECK.due("a TEXT with a FAULT leaves it", x.back(), 0);
        Check.tell(x, Check.DUEL);
        CHECK.due("a TEXT doesn't", x.back(), -1);
    }

    @Says(promise = 45, sentence = "0 HOUSES, 1 PARTS, 2 KNOTS, 3 the YEAR, 4 the BID, 5 who LEADS (NONE: nobody), 6 how "
            + "often it was CALLED, 7 whether it has FALLEN (1, 0), 8 IN, 9 DIED so far, 10 SEEN, 11 by how many it is "
            + "KNOWN, 12 what can be undone.")
    static void p45Count() {
        BidLines x = Check.of("house a 30 0 10 20 0;house b 25 1 5 20 1;house c 0 2 1 20 0;part p 1 1;part q 1 1;"
                + "law death (worth > year) * 100;calls 2;");
        CHECK.dueCounts(x, 3, 2, 5, 0, 0, -1, 0, 0, 3, 0, 0, 0, 0);
        // b and c DIE in YEAR 0, c is ENDED; a bids 10, b 15
        x.go(2);
        CHECK.dueCounts(x, 3, 2, 5, 2, 15, 1, 0, 0, 2, 2, 0, 0, 0);
        x.see(1, 1, true);
        x.see(1, 1, true);
        x.strike(0);
        x.known(2);
        x.nod(0);
        x.child(0);
        CHECK.dueCounts(x, 3, 2, 5, 2, 25, 0, 0, 0, 2, 2, 3, 2, 2);
        x.known(-1);
        CHECK.due("by all", x.count(11), 3);
        x.go(1);
        CHECK.dueCounts(x, 3, 2, 5, 3, 25, 0, 1, 0, 2, 2, 3, 3, 0);
        x.go(1);
        CHECK.dueCounts(x, 3, 2, 5, 4, 25, 0, 2, 1, 2, 2, 3, 3, 0);
    }

    @Says(promise = 45, sentence = "NONE for another what.")
    static void p45AnotherWhat() {
        BidLines x = Check.of(Check.DUEL);
        for (int what : new int[] {-1, -2, 13, 14, 32, 64, Check.LEAST, Check.GREATEST}) {
            CHECK.due("count(" + what + ")", x.count(what), -1);
            CHECK.due("a new object, count(" + what + ")", new BidLines().count(what), -1);
        }
    }
}
