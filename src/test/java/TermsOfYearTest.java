/** Terms, ==== 2: what a YEAR does, the NAMES, VALUES, ERRORs and numbers, sentence by sentence. */
public final class TermsOfYearTest {
    private static final Check CHECK = new Check();

    public static void main(String[] args) throws IllegalAccessException {
        Sentences.run(TermsOfYearTest.class, CHECK);
    }

    private static BidLines after(String text, int years) {
        BidLines x = Check.of(text);
        x.go(years);
        return x;
    }

    // ---- HOUSES and the BID

    @Says(promise = 0, sentence = "A HOUSE is IN, or ENDED.")
    static void inOrEnded() {
        BidLines x = Check.of("house a 0 1 1 20 0;house b 0 0 1 20 0;house c 0 0 1 20 0;law death worth * 100;");
        CHECK.due("all IN", x.count(8), 3);
        x.go(1);
        CHECK.due("a is ENDED", x.house(0, 5), 0);
        CHECK.due("b is IN", x.house(1, 5), 1);
        x.marry(2, 1);
        CHECK.due("b is ENDED", x.house(1, 5), 0);
        CHECK.due("one is IN", x.count(8), 1);
    }

    @Says(promise = 0, sentence = "The BID is LED by a HOUSE (by nobody at first).")
    static void ledByNobodyAtFirst() {
        BidLines x = Check.of("house a 99 0 1 20 0;open 50;law death 0;");
        CHECK.due("nobody", x.count(5), -1);
        CHECK.due("the BID", x.count(4), 50);
        x.go(1);
        CHECK.due("a", x.count(5), 0);
    }

    // ---- (1)

    @Says(promise = 0, sentence = "A YEAR, if the table hasn't FALLEN yet:")
    static void aYearBeforeAndBehindTheFall() {
        BidLines x = Check.of("house a 9 0 1 20 5;house b 9 0 1 20 5;calls 1;law raise year = 0;law death 100;law will 9;");
        x.go(2);
        CHECK.due("FALLEN", x.count(7), 1);
        CHECK.due("DIED in two YEARS", x.count(9), 4);
        x.go(3);
        CHECK.due("nobody DIES then", x.count(9), 4);
    }

    @Says(promise = 0, sentence = "(1) by numbers each HOUSE that is IN:")
    static void headsByNumbersOfHouses() {
        int told = 0;
        for (int seed = 0; seed < 60; seed++) {
            long last = Check.nextNumber(seed);
            int first = Check.drawn(last);
            int second = Check.drawn(Check.nextNumber(last));
            if (first < second) {
                BidLines x = after("house a 0 0 1 20 0;house b 0 0 1 20 0;law death " + second + ";seed " + seed + ";", 1);
                CHECK.due("a has the first number of seed " + seed, x.house(0, 5), 0);
                CHECK.due("b has the second one", x.house(1, 5), 1);
                told++;
            }
        }
        CHECK.due("some seeds tell", told > 9, true);
        // one that is ENDED has no number and grows no older
        long first = Check.nextNumber(7);
        BidLines x = Check.of("house a 0 0 1 20 0;house b 0 0 1 20 0;house c 0 0 1 20 9;seed 7;law death "
                + (Check.drawn(first) + 1) + ";");
        x.marry(2, 0);
        x.marry(2, 1);
        x.go(1);
        CHECK.due("c has the first number", x.house(2, 4), 8);
        CHECK.due("a grows no older", x.house(0, 3), 20);
    }

    @Says(promise = 0, sentence = "AGE is 1 more (99 at most);")
    static void ageIsOneMore() {
        BidLines x = Check.of("house a 0 0 1 97 0;house b 0 0 1 0 0;house c 0 0 1 99 0;law death 0;");
        int[] a = {98, 99, 99, 99};
        for (int year = 0; year < 4; year++) {
            x.go(1);
            CHECK.due("AGE of a behind year " + year, x.house(0, 3), a[year]);
            CHECK.due("AGE of b behind year " + year, x.house(1, 3), year + 1);
            CHECK.due("AGE of c behind year " + year, x.house(2, 3), 99);
        }
    }

    @Says(promise = 0, sentence = "its head DIES, if a number modulo 100 is below E of death")
    static void diesIfTheNumberIsBelow() {
        for (int seed = 0; seed < 200; seed++) {
            int number = Check.drawn(Check.nextNumber(seed));
            String text = "house a 0 0 1 20 9;seed " + seed + ";law death ";
            CHECK.due("E is the number, seed " + seed, after(text + number + ";", 1).count(9), 0);
            CHECK.due("E is one more, seed " + seed, after(text + (number + 1) + ";", 1).count(9), 1);
        }
    }

    @Says(promise = 0, sentence = "(0 .. 100;")
    static void deathBeyondItsRange() {
        // how likely it lives, in hundredths: E of 0 and less is 0, E of 100 and more is 100
        int[] e = {-9999, -1, 0, 1, 99, 100, 101, 9999};
        int[] lives = {1, 1, 1, 99, 1, 0, 0, 0};
        int[] of = {1, 1, 1, 100, 100, 1, 1, 1};
        for (int i = 0; i < e.length; i++) {
            String text = "house a 0 0 1 20 0;law death " + (e[i] < 0 ? "0 - " + -e[i] : e[i]) + ";";
            CHECK.due("E " + e[i], Check.of(text).lives(0, 1, 0), lives[i]);
            CHECK.due("E " + e[i] + ", of", Check.of(text).lives(0, 1, 1), of[i]);
            // the first number from seed 0 on is 0
            CHECK.due("E " + e[i] + ", a YEAR", after(text, 1).count(9), e[i] >= 1 ? 1 : 0);
        }
    }

    @Says(promise = 0, sentence = "AGE less 40, 0 at least, without, with an ERROR;")
    static void deathWithoutALaw() {
        for (String law : new String[] {"", "law death 1 / 0;", "law death age / (year - year);"}) {
            for (int age = 0; age <= 99; age++) {
                BidLines x = Check.of("house a 0 0 1 " + age + " 0;" + law);
                int likely = Math.max(0, Math.min(99, age + 1) - 40);
                CHECK.due("AGE " + age, x.lives(0, 1, 0) * 100, (100 - likely) * x.lives(0, 1, 1));
                CHECK.due("AGE " + age + " as it goes", x.ahead(1, 3), age >= 89 ? 1 : 0);
                x.go(1);
                // the first number from seed 0 on is 0: below all but 0
                CHECK.due("AGE " + age + " by numbers", x.count(9), age >= 40 ? 1 : 0);
            }
        }
    }

    @Says(promise = 0, sentence = "no number, if that is 0 or 100):")
    static void noNumberForZeroAndHundred() {
        int first = Check.drawn(Check.nextNumber(5));
        // E of a is that of its WORTH less 200; b has the first number, or, behind one of a, the second one
        int[] worth = {0, 199, 200, 300, 301, 999};
        for (int w : worth) {
            String text = "house a 0 " + w + " 1 20 9;house b 1 0 1 20 9;seed 5;law death (bound = 0) * (worth - 200) + bound * ";
            CHECK.due("WORTH " + w, after(text + first + ";", 1).house(1, 4), 9);
            CHECK.due("WORTH " + w + ", one more", after(text + (first + 1) + ";", 1).house(1, 4), 8);
        }
        int second = Check.drawn(Check.nextNumber(Check.nextNumber(5)));
        for (int w : new int[] {201, 299}) {
            String text = "house a 0 " + w + " 1 20 9;house b 1 0 1 20 9;seed 5;law death (bound = 0) * (worth - 200) + bound * ";
            CHECK.due("WORTH " + w, after(text + second + ";", 1).house(1, 4), 9);
            CHECK.due("WORTH " + w + ", one more", after(text + (second + 1) + ";", 1).house(1, 4), 8);
        }
        // without a law AGE 40 is 0, too
        String text = "house a 0 0 1 39 0;house b 0 0 1 " + (39 + first) + " 9;seed 5;";
        CHECK.due("AGE less 40 is the number", after(text, 1).house(1, 4), 9);
        text = "house a 0 0 1 39 0;house b 0 0 1 " + (40 + first) + " 9;seed 5;";
        CHECK.due("AGE less 40 is one more", after(text, 1).house(1, 4), 8);
    }

    @Says(promise = 0, sentence = "with HEIRS there is one less, AGE is 20, BOUND is E of will")
    static void withHeirs() {
        BidLines x = after("house a 50 60 7 30 2;law death 100;law will 77;law raise 0;", 1);
        CHECK.dueHouse(x, 0, 77, 60, 7, 20, 1, 1, 0, -1);
        x.go(1);
        CHECK.dueHouse(x, 0, 77, 60, 7, 20, 0, 1, 0, -1);
        CHECK.due("DIED", x.count(9), 2);
    }

    @Says(promise = 0, sentence = "(0 .. 9999; BOUND without, with an ERROR);")
    static void willBeyondItsRange() {
        String text = "house a 50 60 7 30 9;law death 100;law raise 0;";
        CHECK.due("without", after(text, 1).house(0, 0), 50);
        CHECK.due("ERROR", after(text + "law will 1 / 0;", 1).house(0, 0), 50);
        CHECK.due("ERROR above 10 to the 12", after(text + "law will 9999 * 9999 * 9999 * 2;", 1).house(0, 0), 50);
        CHECK.due("0", after(text + "law will 0;", 1).house(0, 0), 0);
        CHECK.due("-1", after(text + "law will 0 - 1;", 1).house(0, 0), 0);
        CHECK.due("far below 0", after(text + "law will 0 - 9999 * 9999 * 9999;", 1).house(0, 0), 0);
        CHECK.due("9998", after(text + "law will 9998;", 1).house(0, 0), 9998);
        CHECK.due("9999", after(text + "law will 9999;", 1).house(0, 0), 9999);
        CHECK.due("10000", after(text + "law will 9999 + 1;", 1).house(0, 0), 9999);
        // 4294967296 and 5 is 5 where bits are lost
        CHECK.due("far above", after(text + "law will 4096 * 4096 * 256 + 5;", 1).house(0, 0), 9999);
    }

    @Says(promise = 0, sentence = "without it is ENDED (a BID it LEADS stays LED).")
    static void withoutHeirs() {
        BidLines x = Check.of("house a 50 60 7 30 0;law death (year = 1) * 100;law will 5;calls 3;");
        x.go(1);
        CHECK.due("a LEADS", x.count(5), 0);
        x.go(1);
        CHECK.dueHouse(x, 0, 50, 60, 7, 32, 0, 0, 1, 7);
        CHECK.due("a LEADS still", x.count(5), 0);
        CHECK.due("CALLED", x.count(6), 1);
        CHECK.due("none is IN", x.count(8), 0);
        CHECK.due("it FALLS to it", x.falls(1), 0);
        CHECK.due("in two YEARS", x.falls(0), 2);
        CHECK.due("at its BID", x.falls(2), 7);
    }

    // ---- (2)

    @Says(promise = 0, sentence = "(2) the TURN is that of the first HOUSE that is IN by numbers from YEAR modulo how many "
            + "HOUSES were told on, behind the last one from 0 on:")
    static void whoseTurn() {
        BidLines x = Check.of("house a 0 0 1 20 0;house b 0 0 1 20 0;house c 0 0 1 20 0;house d 0 0 1 20 0;law death 0;");
        for (int year = 0; year < 9; year++) {
            CHECK.due("all IN, YEAR " + year, x.turn(), year % 4);
            x.go(1);
        }
        x.marry(0, 1);
        // YEAR 9: b isn't IN; how many were told stays 4
        int[] withoutB = {2, 2, 3, 0, 2};
        for (int year = 9; year < 14; year++) {
            CHECK.due("without b, YEAR " + year, x.turn(), withoutB[year - 9]);
            x.go(1);
        }
        x.marry(0, 3);
        x.marry(0, 2);
        for (int year = 14; year < 19; year++) {
            CHECK.due("a alone, YEAR " + year, x.turn(), 0);
            x.go(1);
        }
    }

    @Says(promise = 0, sentence = "(2) the TURN is that of the first HOUSE that is IN by numbers")
    static void theTurnIsBehindTheDeaths() {
        BidLines x = after("house a 50 1 5 20 0;house b 50 0 7 20 0;law death worth * 100;", 1);
        CHECK.due("a is ENDED this YEAR: b RAISES", x.count(5), 1);
        CHECK.due("BID", x.count(4), 7);
        x = after("house a 50 0 5 20 0;house b 50 1 7 20 0;law death (year = 1) * worth * 100;", 2);
        CHECK.due("b is ENDED in YEAR 1: it is a's, who LEADS", x.count(4), 5);
        CHECK.due("CALLED", x.count(6), 1);
    }

    @Says(promise = 0, sentence = "if it doesn't LEAD,")
    static void whoLeadsDoesntRaise() {
        BidLines x = after("house a 50 0 5 20 0;law death 0;calls 9;", 5);
        CHECK.due("BID", x.count(4), 5);
        CHECK.due("CALLED", x.count(6), 4);
        CHECK.due("RAISED", x.house(0, 6), 1);
    }

    @Says(promise = 0, sentence = "BID and STEP are no more than BOUND,")
    static void noMoreThanBound() {
        String text = "law death 0;open 20;house a ";
        CHECK.due("as much", after(text + "25 0 5 20 0;", 1).count(4), 25);
        CHECK.due("one less", after(text + "26 0 5 20 0;", 1).count(4), 25);
        CHECK.due("one more", after(text + "24 0 5 20 0;", 1).count(4), 20);
        CHECK.due("nobody LEADS then", after(text + "24 0 5 20 0;", 1).count(5), -1);
    }

    @Says(promise = 0, sentence = "and E of raise isn't 0 (it RAISES without, with an ERROR):")
    static void lawOfRaising() {
        String text = "house a 9 0 1 20 0;law death 0;";
        CHECK.due("without", after(text, 1).count(4), 1);
        CHECK.due("0", after(text + "law raise 0;", 1).count(4), 0);
        CHECK.due("1", after(text + "law raise 1;", 1).count(4), 1);
        CHECK.due("9999", after(text + "law raise 9999;", 1).count(4), 1);
        CHECK.due("-1", after(text + "law raise 0 - 1;", 1).count(4), 1);
        // 4294967296 is 0 where bits are lost
        CHECK.due("much", after(text + "law raise 4096 * 4096 * 256;", 1).count(4), 1);
        CHECK.due("/ by 0", after(text + "law raise 1 / 0;", 1).count(4), 1);
        CHECK.due("above 10 to the 12", after(text + "law raise 9999 * 9999 * 9999 * 9999 * 0;", 1).count(4), 1);
    }

    @Says(promise = 0, sentence = "BID is STEP more, it LEADS, nothing is CALLED.")
    static void whatARaiseDoes() {
        BidLines x = Check.of("house a 99 0 5 20 0;house b 99 0 7 20 0;open 30;law death 0;law raise year = 0 or year = 3;");
        x.go(1);
        CHECK.dueCounts(x, 2, 0, 8, 1, 35, 0, 0);
        x.go(2);
        CHECK.dueCounts(x, 2, 0, 8, 3, 35, 0, 2);
        x.go(1);
        CHECK.dueCounts(x, 2, 0, 8, 4, 42, 1, 0);
        CHECK.due("a RAISED", x.house(0, 6), 1);
        CHECK.due("b RAISED", x.house(1, 6), 1);
        CHECK.due("last BID of a", x.house(0, 7), 35);
        CHECK.due("last BID of b", x.house(1, 7), 42);
    }

    // ---- (3), (4)

    @Says(promise = 0, sentence = "(3) if nobody RAISED and somebody LEADS, the BID is CALLED once more;")
    static void calledOnceMore() {
        BidLines x = after("house a 9 0 9 20 0;house b 0 0 1 20 0;law death 0;calls 20;", 1);
        CHECK.due("somebody RAISED", x.count(6), 0);
        for (int called = 1; called < 9; called++) {
            x.go(1);
            CHECK.due("CALLED", x.count(6), called);
        }
        CHECK.due("nobody LEADS", after("house a 0 0 1 20 0;law death 0;calls 1;", 99).count(6), 0);
        CHECK.due("not FALLEN", after("house a 0 0 1 20 0;law death 0;calls 1;", 99).count(7), 0);
        CHECK.due("no HOUSES", after("calls 1;", 99).count(7), 0);
    }

    @Says(promise = 0,
            sentence = "when it is CALLED so often as told, the table has FALLEN to who LEADS at the BID.")
    static void fallenWhenCalledSoOften() {
        for (int calls : new int[] {1, 2, 3, 20}) {
            BidLines x = Check.of("house a 0 0 1 20 0;house b 9 0 4 20 0;law death 0;open 5;calls " + calls + ";");
            x.go(calls + 1);
            CHECK.due("CALLED once less, calls " + calls, x.count(6), calls - 1);
            CHECK.due("not yet, calls " + calls, x.count(7), 0);
            x.go(1);
            CHECK.due("CALLED, calls " + calls, x.count(6), calls);
            CHECK.due("FALLEN, calls " + calls, x.count(7), 1);
            CHECK.due("to b", x.falls(1), 1);
            CHECK.due("at", x.falls(2), 9);
        }
    }

    @Says(promise = 0, sentence = "(4) each PART is a YEAR older: when it is as old as it LASTS, it is renewed "
            + "(0 old, not of the first table any more);")
    static void partsGrowOlder() {
        BidLines x = Check.of("part a 3 0;part b 1 0;part c 99 98;part d 3 2;");
        int[][] old = {{1, 0, 0, 0}, {2, 0, 1, 1}, {0, 0, 2, 2}, {1, 0, 3, 0}};
        int[][] first = {{1, 0, 0, 0}, {1, 0, 0, 0}, {0, 0, 0, 0}, {0, 0, 0, 0}};
        for (int year = 0; year < 4; year++) {
            x.go(1);
            for (int part = 0; part < 4; part++) {
                CHECK.due("how OLD " + part + " behind year " + year, x.part(part, 1), old[year][part]);
                CHECK.due("first " + part + " behind year " + year, x.part(part, 2), first[year][part]);
            }
        }
    }

    @Says(promise = 0, sentence = "of one told older than it LASTS likewise.")
    static void partsToldOlder() {
        BidLines x = Check.of("part a 3 3;part b 3 4;part c 3 99;part d 98 99;part e 1 1;");
        for (int part = 0; part < 5; part++) {
            CHECK.due("of the first table " + part, x.part(part, 2), 1);
        }
        CHECK.due("as told", x.part(2, 1), 99);
        x.go(1);
        for (int part = 0; part < 5; part++) {
            CHECK.due("renewed " + part, x.part(part, 1), 0);
            CHECK.due("not of the first table " + part, x.part(part, 2), 0);
        }
        x.go(2);
        CHECK.due("a YEAR older", x.part(2, 1), 2);
    }

    @Says(promise = 0, sentence = "Then it is the next YEAR; when it has FALLEN, (4) alone goes on.")
    static void partsAloneGoOn() {
        BidLines x = after("house a 9 0 9 20 3;house b 99 0 1 20 3;part p 9 0;calls 1;law raise year < 1;law death 0;", 2);
        CHECK.dueCounts(x, 2, 1, 4, 2, 9, 0, 1, 1, 2, 0);
        x.go(5);
        CHECK.dueCounts(x, 2, 1, 4, 7, 9, 0, 1, 1, 2, 0);
        CHECK.dueHouse(x, 0, 9, 0, 9, 22, 3, 1, 1, 9);
        CHECK.dueHouse(x, 1, 99, 0, 1, 22, 3, 1, 0, -1);
        CHECK.due("how OLD", x.part(0, 1), 7);
        x.go(2);
        CHECK.due("renewed", x.part(0, 2), 0);
        CHECK.due("the YEAR", x.count(3), 9);
    }

    // ---- NAMES, VALUES, ERRORs, numbers

    @Says(promise = 0, sentence = "NAMES: bid: BID; bound, worth, age, heirs: of the HOUSE")
    static void namesOfTheHouse() {
        CHECK.dueValue("bid", 9);
        CHECK.dueValue("bound", 12);
        CHECK.dueValue("worth", 34);
        CHECK.dueValue("age", 67);
        CHECK.dueValue("heirs", 8);
        BidLines x = Check.of("house a 1 2 3 4 5;house b 61 7 8 9 0;law will bound * 1000 + worth * 100 + age * 10 + heirs;"
                + "law raise bid;");
        CHECK.due("of a", x.law(1, 0), 1245);
        CHECK.due("of b", x.law(1, 1), 61790);
        x.nod(1);
        x.will(0, 9);
        x.child(1);
        CHECK.due("of a then", x.law(1, 0), 9245);
        CHECK.due("of b then", x.law(1, 1), 61791);
        CHECK.due("BID then", x.law(2, 0), 8);
    }

    @Says(promise = 0, sentence = "(of death AGE with this YEAR; of will HEIRS that are left, AGE of who died);")
    static void namesOfWhoDies() {
        String text = "house a 50 0 99 30 3;law death (age = 31) * 100;law will age * 100 + heirs * 10 + bid;open 7;";
        BidLines x = after(text, 1);
        CHECK.due("DIED at 31", x.count(9), 1);
        CHECK.due("AGE 31, HEIRS 2, BID 7", x.house(0, 0), 3127);
        CHECK.due("not at 30", after(text.replace("= 31", "= 30"), 1).count(9), 0);
        // at 99 it stays 99
        x = after("house a 50 0 99 99 1;law death (age = 99) * 100;law will age * 100 + heirs;law raise 0;", 1);
        CHECK.due("AGE 99, HEIRS 0", x.house(0, 0), 9900);
        // the raise of this YEAR comes behind
        x = after("house a 50 0 5 30 1;law death (age = 31) * 100;law raise age = 20 and heirs = 0;", 1);
        CHECK.due("the heir RAISES", x.count(4), 5);
    }

    @Says(promise = 0, sentence = "called: how often the BID was CALLED; year: the YEAR.")
    static void namesOfTheSale() {
        BidLines x = Check.of("house a 9 0 9 20 0;law death 0;calls 9;law will year * 100 + called;");
        CHECK.due("at first", x.law(1, 0), 0);
        x.go(1);
        CHECK.due("RAISED in YEAR 0", x.law(1, 0), 100);
        x.go(3);
        CHECK.due("CALLED three times", x.law(1, 0), 403);
        // of raise it is what was CALLED ahead of this YEAR's call
        x = after("house a 9 0 1 20 0;house b 9 0 1 20 0;law death 0;calls 9;law raise year = 0 or called = 3;", 5);
        CHECK.due("a LEADS in YEAR 4 still", x.count(5), 0);
        CHECK.due("CALLED", x.count(6), 4);
        x = after("house a 9 0 1 20 0;house b 9 0 1 20 0;law death 0;calls 9;law raise year = 0 or called = 4;", 6);
        CHECK.due("b RAISES in YEAR 5", x.count(5), 1);
        CHECK.due("YEAR 9000", lateYear(), 9000);
    }

    private static long lateYear() {
        BidLines x = Check.of("house a 0 0 1 20 0;law will year;law death 0;");
        for (int i = 0; i < 90; i++) {
            x.go(99);
        }
        x.go(90);
        return x.law(1, 0);
    }

    @Says(promise = 0,
            sentence = "VALUES are longs; comparisons, and, or, not are 1 or 0 (what isn't 0 is as 1,")
    static void truths() {
        CHECK.dueValue("9999 * 9999 * 9999", 999700029999L);
        CHECK.dueValue("0 - 9999 * 9999 * 9999", -999700029999L);
        // pairs less, alike, more; of <, <=, =, <>, >=, >
        String[] pairs = {"1 ? 2", "2 ? 2", "3 ? 2", "(0 - 1) ? 0", "(9999 * 9999 * 43) ? (9999 * 9999 * 43 + 1)"};
        String[] signs = {"<", "<=", "=", "<>", ">=", ">"};
        int[][] due = {{1, 1, 0, 1, 0, 0}, {0, 1, 1, 0, 1, 0}, {0, 0, 0, 1, 1, 1}, {1, 1, 0, 1, 0, 0}, {1, 1, 0, 1, 0, 0}};
        for (int i = 0; i < pairs.length; i++) {
            for (int k = 0; k < signs.length; k++) {
                CHECK.dueValue(pairs[i].replace("?", signs[k]), due[i][k]);
            }
        }
        for (String one : new String[] {"0", "1", "7", "(0 - 7)", "4096 * 4096 * 256"}) {
            int a = one.equals("0") ? 0 : 1;
            CHECK.dueValue("not " + one, 1 - a);
            CHECK.dueValue("not not " + one, a);
            for (String other : new String[] {"0", "1", "7", "(0 - 7)", "4096 * 4096 * 256"}) {
                int b = other.equals("0") ? 0 : 1;
                CHECK.dueValue(one + " and " + other, a * b);
                CHECK.dueValue(one + " or " + other, a + b > 0 ? 1 : 0);
            }
        }
    }

    @Says(promise = 0, sentence = "both sides are worked out),")
    static void bothSidesAreWorkedOut() {
        long error = Long.MIN_VALUE;
        CHECK.dueValue("0 and 1 / 0", error);
        CHECK.dueValue("1 / 0 and 0", error);
        CHECK.dueValue("1 or 1 / 0", error);
        CHECK.dueValue("1 / 0 or 1", error);
        CHECK.dueValue("0 * (1 / 0)", error);
        CHECK.dueValue("not (1 / 0)", error);
        CHECK.dueValue("1 / 0 = 1 / 0", error);
    }

    @Says(promise = 0, sentence = "/ is cut towards 0;")
    static void quotientsAreCut() {
        CHECK.dueValue("7 / 2", 3);
        CHECK.dueValue("(0 - 7) / 2", -3);
        CHECK.dueValue("7 / (0 - 2)", -3);
        CHECK.dueValue("(0 - 7) / (0 - 2)", 3);
        CHECK.dueValue("1 / 2", 0);
        CHECK.dueValue("(0 - 1) / 2", 0);
        CHECK.dueValue("0 / 5", 0);
    }

    @Says(promise = 0, sentence = "ERROR: / by 0,")
    static void errorOfDivision() {
        long error = Long.MIN_VALUE;
        CHECK.dueValue("1 / 0", error);
        CHECK.dueValue("0 / 0", error);
        CHECK.dueValue("1 / (heirs - 8)", error);
        CHECK.dueValue("1 / (1 / 2)", error);
        CHECK.dueValue("1 / (1 < 0)", error);
        CHECK.dueValue("1 / 0 + 1", error);
        CHECK.dueValue("1 / (heirs - 7)", 1);
        CHECK.dueValue("1 / (heirs - 9)", -1);
    }

    @Says(promise = 0, sentence = "a value above 10 to the 12 or below 0 by more than that.")
    static void errorOfValues() {
        long error = Long.MIN_VALUE;
        String most = "1000 * 1000 * 1000 * 1000";
        CHECK.dueValue(most, 1000000000000L);
        CHECK.dueValue(most + " + 0", 1000000000000L);
        CHECK.dueValue(most + " + 1", error);
        CHECK.dueValue(most + " - (0 - 1)", error);
        CHECK.dueValue("0 - " + most, -1000000000000L);
        CHECK.dueValue("0 - " + most + " - 1", error);
        CHECK.dueValue("0 - " + most + " + (0 - 1)", error);
        CHECK.dueValue("(0 - 1000 * 1000) * (1000 * 1000)", -1000000000000L);
        CHECK.dueValue("(0 - 1000 * 1000) * (1000 * 1000 + 1)", error);
        CHECK.dueValue("(1000 * 1000) * (1000 * 1000 + 1)", error);
        CHECK.dueValue("(1000 * 1000 + 1) * (1000 * 1000 - 1)", 999999999999L);
        // on the way to a value within
        CHECK.dueValue(most + " + 1 - 1", error);
        CHECK.dueValue("0 * (" + most + " + 1)", error);
        CHECK.dueValue("(" + most + " * 2) / 2", error);
        CHECK.dueValue("not (" + most + " + 1)", error);
        // products beyond 64 bits, which would come out small
        CHECK.dueValue("(4096 * 4096 * 4096) * (4096 * 4096 * 16)", error);
        CHECK.dueValue("(0 - 4096 * 4096 * 4096) * (4096 * 4096 * 16)", error);
        CHECK.dueValue("(" + most + ") * (" + most + ")", error);
    }

    @Says(promise = 0, sentence = "Numbers are the last one (at first the seed) times 1103515245 and 12345, without what "
            + "is above 31 bits, by 65536.")
    static void numbersFromTheSeedOn() {
        for (int seed : new int[] {0, 1, 2, 77, 65535, 65536, 99999}) {
            BidLines x = Check.of("house a 0 0 1 20 9;house b 0 0 1 20 9;house c 0 0 1 20 9;law death 10;seed " + seed + ";");
            long last = seed;
            int[] heirs = {9, 9, 9};
            for (int year = 0; year < 15; year++) {
                x.go(1);
                for (int house = 0; house < 3; house++) {
                    last = Check.nextNumber(last);
                    heirs[house] -= Check.drawn(last) < 10 ? 1 : 0;
                    CHECK.due("seed " + seed + ", HEIRS of " + house, x.house(house, 4), heirs[house]);
                }
            }
        }
    }

    @Says(promise = 0, sentence = "AS IT GOES: without numbers: a head DIES, if E is 50 at least.")
    static void asItGoes() {
        for (int e = 0; e <= 101; e++) {
            BidLines x = Check.of("house a 0 0 1 20 0;seed 1;law death " + e + ";");
            CHECK.due("E " + e, x.ahead(1, 3), e >= 50 ? 1 : 0);
            CHECK.due("E " + e + ", in 99 YEARS", x.left(99), e >= 50 ? 0 : 1);
        }
        // asking takes no numbers
        BidLines one = Check.of("house a 0 0 1 20 9;seed 1;law death 50;");
        BidLines other = Check.of("house a 0 0 1 20 9;seed 1;law death 50;");
        one.ahead(99, 0);
        one.falls(0);
        for (int year = 0; year < 9; year++) {
            one.go(1);
            other.go(1);
            CHECK.due("HEIRS behind year " + year, one.house(0, 4), other.house(0, 4));
        }
        // behind YEARS by numbers, too: the first number from seed 0 on is 0
        BidLines x = Check.of("house a 0 0 1 20 9;law death 49 * (year > 0);");
        x.go(1);
        CHECK.due("of 49", x.ahead(99, 3), 0);
        x.chance(0, 5, 0);
        CHECK.due("of 49 behind chance()", x.ahead(99, 3), 0);
    }
}
