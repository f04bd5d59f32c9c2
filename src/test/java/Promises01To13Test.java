/** Promises 1 to 13: a new object, the tape, the text, how things stand, what is done by call, years; each sentence. */
public final class Promises01To13Test {
    private static final Check CHECK = new Check();
    private static final int BLANKS = 0x20202020;
    private static final String TWO = "house a 100 200 10 30 1;house b 95 150 20 50 0;part p 9 3;part q 4 0;open 20;"
            + "law death 0;law raise 0;calls 2;";
    private static final int[] NO_WHAT = {-1, -2, 32, Check.LEAST, Check.GREATEST};

    public static void main(String[] args) throws IllegalAccessException {
        Sentences.run(Promises01To13Test.class, CHECK);
    }

    private static int feedBlanks(BidLines x) {
        return x.feed(BLANKS, BLANKS, BLANKS, BLANKS, BLANKS);
    }

    // ---- 1, 2: a new object, feed

    @Says(promise = 1, sentence = "A TEXT without LINES; an empty TAPE.")
    static void p01NewObject() {
        BidLines x = new BidLines();
        CHECK.dueCounts(x, 0, 0, 0, 0, 0, -1, 0, 0, 0, 0, 0, 0, 0, -1);
        CHECK.dueThrow(x, 0, 0, 1);
        CHECK.due("part(0, 0)", x.part(0, 0), -1);
        CHECK.due("named(0, a)", x.named(0, Check.letters("a")), -1);
        for (int law = 0; law < 3; law++) {
            CHECK.due("law(" + law + ", 0)", x.law(law, 0), Long.MIN_VALUE);
        }
        CHECK.due("fault(0)", x.fault(0), 0);
        CHECK.due("fault(1)", x.fault(1), -1);
        CHECK.due("undo()", x.undo(), -1);
        CHECK.due("back()", x.back(), -1);
        CHECK.due("text(1)", x.text(1), -2);
        CHECK.due("text(0)", x.text(0), 0);
        CHECK.due("feed", feedBlanks(x), 20);
        // its YEARS go by as of any TEXT, what is SEEN is all KNOWN, and an IMAGE can be kept
        CHECK.due("go(99)", x.go(99), 99);
        CHECK.due("see", x.see(1, 0, true), 0);
        CHECK.due("KNOWN", x.count(11), 1);
        CHECK.due("keep", x.keep(), 99);
        CHECK.due("back", x.back(), 99);
        // all is KNOWN without a text(), too
        x = new BidLines();
        CHECK.due("see", x.see(1, 0, true), 0);
        CHECK.due("KNOWN", x.count(11), 1);
    }

    @Says(promise = 2,
            sentence = "Twenty bytes come behind the TAPE, four of each number, the highest first:")
    static void p02TwentyBytes() {
        BidLines x = new BidLines();
        // "open 5;calls 7;seed " and "9;house a 1 2 3 4 5;"
        x.feed(0x6f70656e, 0x20353b63, 0x616c6c73, 0x20373b73, 0x65656420);
        x.feed(0x393b686f, 0x75736520, 0x61203120, 0x32203320, 0x3420353b);
        CHECK.due("four LINES", x.text(40), 4);
        CHECK.due("BID", x.count(4), 5);
        CHECK.dueHouse(x, 0, 1, 2, 3, 4, 5);
        // bytes of more than 7 bits are what they are, wherever they stand
        for (int at = 0; at < 20; at++) {
            int[] n = {BLANKS, BLANKS, BLANKS, BLANKS, BLANKS};
            n[at / 4] ^= (0x20 ^ 0xe1) << 24 - at % 4 * 8;
            x.feed(n[0], n[1], n[2], n[3], n[4]);
            CHECK.due("text of 225 at " + at, x.text(20), -1);
            CHECK.due("kind of 225 at " + at, x.fault(0), 1);
            CHECK.due("place of 225 at " + at, x.fault(1), at);
        }
    }

    @Says(promise = 2, sentence = "how many it has;")
    static void p02HowManyItHas() {
        BidLines x = new BidLines();
        for (int i = 1; i <= 35; i++) {
            CHECK.due("feed " + i, feedBlanks(x), 20 * i);
        }
        x.text(0);
        CHECK.due("from none on", feedBlanks(x), 20);
    }

    @Says(promise = 2, sentence = "NONE, and none come, if it would have more than 700.")
    static void p02NoneComeBeyond700() {
        BidLines x = new BidLines();
        for (int i = 1; i <= 35; i++) {
            feedBlanks(x);
        }
        for (int i = 0; i < 3; i++) {
            CHECK.due("the 36th", x.feed(0x21212121, 0x21212121, 0x21212121, 0x21212121, 0x21212121), -1);
        }
        CHECK.due("not 701", x.text(701), -2);
        CHECK.due("not 720", x.text(720), -2);
        CHECK.due("700 blanks", x.text(700), 0);
        CHECK.due("and there is room again", feedBlanks(x), 20);
    }

    // ---- 3, 4, 5: text, fault, named

    @Says(promise = 3, sentence = "The TAPE's first n bytes (it is empty then) are the TEXT")
    static void p03FirstBytes() {
        BidLines x = new BidLines();
        Check.put(x, "open 5;calls 7;seed !");
        CHECK.due("its first 15 bytes", x.text(15), 2);
        CHECK.due("BID", x.count(4), 5);
        CHECK.due("the TAPE is empty", x.text(1), -2);
        CHECK.due("a new first byte", feedBlanks(x), 20);
        CHECK.due("none of its bytes", x.text(0), 0);
        CHECK.due("the TAPE is empty", x.text(1), -2);
        // all 700
        String text = "open 6;" + " ".repeat(683) + "calls 111;";
        Check.put(x, text);
        CHECK.due("700 bytes", x.text(700), -1);
        CHECK.due("the last number", x.fault(1), 696);
        Check.put(x, text);
        CHECK.due("690 bytes", x.text(690), 1);
    }

    @Says(promise = 3, sentence = "(YEAR 0, all IN, nobody LEADS, nothing CALLED, SEEN, all KNOWN, no IMAGE, nothing to "
            + "undo then):")
    static void p03AllIsNew() {
        String text = "house a 9 0 1 20 0;house b 9 0 1 20 0;part p 3 1;law raise year = 0;calls 9;law death (bound = 1) * 100;";
        BidLines x = Check.of(text);
        String fresh = Check.picture(x);
        x.go(4);
        x.keep();
        x.will(0, 1);
        x.go(1);
        x.nod(1);
        x.see(1, 1, true);
        x.see(1, 1, true);
        x.known(1);
        CHECK.dueCounts(x, 2, 1, 8, 5, 2, 1, 0, 0, 1, 1, 2, 1, 1);
        CHECK.due("the same TEXT again", Check.tell(x, text), 6);
        CHECK.dueSame("all", Check.picture(x), fresh);
        CHECK.dueCounts(x, 2, 1, 8, 0, 0, -1, 0, 0, 2, 0, 0, 0, 0);
        CHECK.due("no IMAGE", x.back(), -1);
        CHECK.due("nothing to undo", x.undo(), -1);
        CHECK.due("SEEN from 0 on", x.see(1, 0, true), 0);
        CHECK.due("all KNOWN, also those to come", x.count(11), 1);
        // KNOWN by none, and CALLED, ahead of it
        x.known(0);
        x.go(3);
        CHECK.dueCounts(x, 2, 1, 8, 3, 1, 0, 2, 0, 2, 0, 1, 0, 0);
        Check.tell(x, text);
        CHECK.dueSame("all", Check.picture(x), fresh);
        x.see(1, 0, true);
        CHECK.due("all KNOWN", x.count(11), 1);
        // one without LINES
        x.keep();
        CHECK.due("text(0)", x.text(0), 0);
        CHECK.dueCounts(x, 0, 0, 0, 0, 0, -1, 0, 0, 0, 0, 0, 0, 0);
        CHECK.due("no IMAGE", x.back(), -1);
    }

    @Says(promise = 3, sentence = "how many LINES;")
    static void p03HowManyLines() {
        CHECK.dueGood("", 0);
        CHECK.dueGood("\n", 0);
        CHECK.dueGood("calls 1;", 1);
        CHECK.dueGood("house a 1 1 1 1 1;house b 1 1 1 1 1;house c 1 1 1 1 1;house d 1 1 1 1 1;house e 1 1 1 1 1;"
                + "house f 1 1 1 1 1;part a 1 1;part b 1 1;part c 1 1;part d 1 1;part e 1 1;part f 1 1;calls 1;open 1;"
                + "seed 1;law death 1;law will 1;law raise 1;", 18);
    }

    @Says(promise = 3, sentence = "NONE with a FAULT, all stays;")
    static void p03AllStaysWithAFault() {
        BidLines x = Check.of(TWO);
        x.go(1);
        x.nod(1);
        x.keep();
        x.child(0);
        x.see(3, 4, true);
        x.strike(0);
        x.known(1);
        String stands = Check.picture(x);
        for (String text : new String[] {"!", "house c 1 1 1 1 1;part r 1 1;open 7;seed 8;law death 1;law will 1;calls 0;",
            "law raise 1 + 1 + ;", "house"}) {
            CHECK.due("text '" + text + "'", Check.tell(x, text), -1);
            CHECK.dueSame("all behind '" + text + "'", Check.picture(x), stands);
            CHECK.due("names", x.named(0, Check.letters("b")), 1);
            CHECK.due("no new names", x.named(0, Check.letters("c")), -1);
            CHECK.due("the laws", x.law(2, 0), 0);
            CHECK.due("no new laws", x.law(1, 0), Long.MIN_VALUE);
            CHECK.due("calls", x.falls(0), 2);
        }
        CHECK.due("what can be undone", x.undo(), 1);
        CHECK.due("the IMAGE", x.back(), 1);
    }

    @Says(promise = 3, sentence = "-2, and the TAPE stays: there are not so many, n is below 0.")
    static void p03TapeStays() {
        BidLines x = new BidLines();
        CHECK.due("one of none", x.text(1), -2);
        Check.put(x, "calls 3;calls 4;");
        for (int n : new int[] {21, 22, 700, 701, Check.GREATEST, -1, -2, Check.LEAST}) {
            CHECK.due("text(" + n + ")", x.text(n), -2);
        }
        CHECK.due("no FAULT of it", x.fault(0), 0);
        CHECK.due("behind the TAPE", feedBlanks(x), 40);
        CHECK.due("41", x.text(41), -2);
        CHECK.due("its first 8 bytes", x.text(8), 1);
    }

    @Says(promise = 4, sentence = "Of the latest text() that was not -2,")
    static void p04OfTheLatest() {
        BidLines x = new BidLines();
        CHECK.due("none yet", x.fault(0), 0);
        CHECK.due("none yet", x.fault(1), -1);
        Check.tell(x, "calls 0;");
        CHECK.due("FAULT", x.fault(0), 2);
        CHECK.due("place", x.fault(1), 6);
        CHECK.due("-2", x.text(1), -2);
        CHECK.due("-2", x.text(-1), -2);
        CHECK.due("FAULT still", x.fault(0), 2);
        CHECK.due("place still", x.fault(1), 6);
        Check.tell(x, " calls 1;calls");
        CHECK.due("another FAULT", x.fault(0), 3);
        CHECK.due("another place", x.fault(1), 9);
        Check.tell(x, "calls 1;");
        CHECK.due("none", x.fault(0), 0);
        CHECK.due("none", x.fault(1), -1);
    }

    @Says(promise = 4, sentence = "what 0: its FAULT (0), 1: its place (NONE without).")
    static void p04FaultAndPlace() {
        CHECK.dueFault("", 0, -1);
        CHECK.dueFault("calls 1;", 0, -1);
        CHECK.dueFault("!", 1, 0);
        CHECK.dueFault("calls 21;", 2, 6);
        CHECK.dueFault("open 1;open 1;", 3, 7);
        CHECK.dueFault(" ".repeat(699) + "!", 1, 699);
        CHECK.dueFault(" ".repeat(695) + "calls", 1, 700);
    }

    @Says(promise = 4, sentence = "NONE for another what.")
    static void p04AnotherWhat() {
        BidLines x = new BidLines();
        Check.tell(x, "calls 0;");
        for (int what : NO_WHAT) {
            CHECK.due("fault(" + what + ")", x.fault(what), -1);
        }
        CHECK.due("fault(2)", x.fault(2), -1);
    }

    @Says(promise = 5, sentence = "The number of a HOUSE (what 0), PART (1) by its letters, 5 bits each (a is 1; the first "
            + "one highest of six, 0 behind the last one);")
    static void p05ByLetters() {
        BidLines x = Check.of("house a 1 1 1 1 1;house z 1 1 1 1 1;house ab 1 1 1 1 1;house zzzzzz 1 1 1 1 1;part abcdef 1 1;"
                + "part b 1 1;");
        CHECK.due("a", x.named(0, 1 << 25), 0);
        CHECK.due("z", x.named(0, 26 << 25), 1);
        CHECK.due("ab", x.named(0, 1 << 25 | 2 << 20), 2);
        CHECK.due("zzzzzz", x.named(0, 26 << 25 | 26 << 20 | 26 << 15 | 26 << 10 | 26 << 5 | 26), 3);
        CHECK.due("abcdef", x.named(1, 1 << 25 | 2 << 20 | 3 << 15 | 4 << 10 | 5 << 5 | 6), 0);
        CHECK.due("b", x.named(1, 2 << 25), 1);
        x.marry(0, 1);
        CHECK.due("one that is ENDED", x.named(0, 26 << 25), 1);
        // the last of six, without any of the other kind
        x = Check.of("part a 1 1;part b 1 1;part c 1 1;part d 1 1;part e 1 1;part f 1 1;");
        CHECK.due("PART f", x.named(1, 6 << 25), 5);
        x = Check.of("house a 1 1 1 1 1;house b 1 1 1 1 1;house c 1 1 1 1 1;house d 1 1 1 1 1;house e 1 1 1 1 1;"
                + "house f 1 1 1 1 1;");
        CHECK.due("HOUSE f", x.named(0, 6 << 25), 5);
    }

    @Says(promise = 5, sentence = "NONE: there is none such.")
    static void p05NoneSuch() {
        BidLines x = Check.of("house a 1 1 1 1 1;part b 1 1;");
        int[] letters = {0, 1, -1, Check.LEAST, Check.GREATEST, 1 << 20, 1 << 25 | 1, 1 << 25 | 1 << 30,
            1 << 25 | 1 << 31, 2 << 25, 3 << 25, 1 << 25 | 1 << 20};
        for (int name : letters) {
            CHECK.due("named(0, " + name + ")", x.named(0, name), -1);
        }
        CHECK.due("a is no PART", x.named(1, 1 << 25), -1);
        for (int what : NO_WHAT) {
            CHECK.due("named(" + what + ", a)", x.named(what, 1 << 25), -1);
        }
        CHECK.due("named(2, a)", x.named(2, 1 << 25), -1);
        CHECK.due("named(2, 0)", x.named(2, 0), -1);
        // names of the TEXTS ahead, where there are fewer of a kind now than there were
        Check.tell(x, "house c 1 1 1 1 1;part e 1 1;part f 1 1;");
        Check.tell(x, "calls 1;");
        Check.tell(x, "house c 1 1 1 1 1;house d 1 1 1 1 1;part e 1 1;");
        CHECK.due("HOUSE a is gone", x.named(0, 1 << 25), -1);
        CHECK.due("PART b is gone", x.named(1, 2 << 25), -1);
        CHECK.due("PART f is gone", x.named(1, 6 << 25), -1);
        Check.tell(x, "calls 1;");
        Check.tell(x, "house c 1 1 1 1 1;part e 1 1;part f 1 1;");
        CHECK.due("HOUSE d is gone", x.named(0, 4 << 25), -1);
    }

    // ---- 6, 7, 8: house, part, law

    @Says(promise = 6, sentence = "Of a HOUSE now, what 0 BOUND, 1 WORTH, 2 STEP, 3 AGE, 4 HEIRS, 5 whether IN (1, 0), "
            + "6 how often it RAISED, 7 its last BID (NONE: none).")
    static void p06House() {
        BidLines x = Check.of("house a 100 200 10 30 1;house b 95 150 20 50 0;open 20;law death 0;calls 9;");
        CHECK.dueHouse(x, 0, 100, 200, 10, 30, 1, 1, 0, -1);
        CHECK.dueHouse(x, 1, 95, 150, 20, 50, 0, 1, 0, -1);
        // a 30, b 50, a 60
        x.go(3);
        CHECK.dueHouse(x, 0, 100, 200, 10, 33, 1, 1, 2, 60);
        CHECK.dueHouse(x, 1, 95, 150, 20, 53, 0, 1, 1, 50);
        x.nod(1);
        x.child(0);
        x.marry(0, 1);
        CHECK.dueHouse(x, 0, 195, 200, 10, 33, 2, 1, 2, 60);
        CHECK.dueHouse(x, 1, 95, 150, 20, 53, 0, 0, 2, 80);
    }

    @Says(promise = 6, sentence = "IndexOutOfBoundsException: no such HOUSE.")
    static void p06NoSuchHouse() {
        BidLines x = Check.of(TWO);
        for (int house : Check.NO_HOUSE) {
            for (int what : new int[] {0, 7, 8, -1, Check.GREATEST}) {
                CHECK.dueThrow(x, house, what, 1);
            }
        }
        CHECK.dueThrow(x, 1, 0, 0);
        CHECK.dueThrow(new BidLines(), 0, 0, 1);
        // HOUSES of a TEXT ahead
        Check.tell(x, "house c 1 1 1 1 1;");
        CHECK.dueThrow(x, 1, 0, 1);
    }

    @Says(promise = 6, sentence = "NoSuchElementException: no such what.")
    static void p06NoSuchWhat() {
        BidLines x = Check.of(TWO);
        for (int house = 0; house < 2; house++) {
            for (int what : NO_WHAT) {
                CHECK.dueThrow(x, house, what, 2);
            }
            CHECK.dueThrow(x, house, 8, 2);
            CHECK.dueThrow(x, house, 7, 0);
        }
    }

    @Says(promise = 7,
            sentence = "Of a PART now, what 0 LASTS, 1 how OLD, 2 whether it is of the first table (1, 0).")
    static void p07Part() {
        BidLines x = Check.of(TWO);
        int[][][] due = {{{9, 3, 1}, {4, 0, 1}}, {{9, 7, 1}, {4, 0, 0}}, {{9, 8, 1}, {4, 1, 0}}, {{9, 0, 0}, {4, 2, 0}}};
        int[] years = {0, 4, 1, 1};
        for (int i = 0; i < years.length; i++) {
            x.go(years[i]);
            for (int part = 0; part < 2; part++) {
                for (int what = 0; what < 3; what++) {
                    CHECK.due("part(" + part + ", " + what + ")", x.part(part, what), due[i][part][what]);
                }
            }
        }
    }

    @Says(promise = 7, sentence = "NONE: no such ones.")
    static void p07NoSuchOnes() {
        BidLines x = Check.of(TWO);
        for (int part : Check.NO_HOUSE) {
            CHECK.due("part(" + part + ", 0)", x.part(part, 0), -1);
        }
        for (int what : NO_WHAT) {
            CHECK.due("part(0, " + what + ")", x.part(0, what), -1);
        }
        CHECK.due("part(0, 3)", x.part(0, 3), -1);
        CHECK.due("a TEXT without PARTS", Check.of("house a 1 1 1 1 1;").part(0, 0), -1);
        Check.tell(x, "part r 1 1;");
        CHECK.due("PARTS of a TEXT ahead", x.part(1, 0), -1);
    }

    @Says(promise = 8,
            sentence = "A law's E now of a HOUSE (what 0 death, 1 will, 2 raise; all as it is now).")
    static void p08Law() {
        BidLines x = Check.of("house a 200 300 7 60 3;house b 1 2 3 4 5;open 50;law death age / 2 - heirs;"
                + "law will bound + worth / 3 - age;law raise bid < worth / 2;");
        long[][] due = {{27, 240, 1}, {-3, -3, 0}};
        for (int house = 0; house < 2; house++) {
            for (int what = 0; what < 3; what++) {
                CHECK.due("law(" + what + ", " + house + ")", x.law(what, house), due[house][what]);
            }
        }
        // AGE isn't that of this YEAR, HEIRS are all that there are; beyond a law's range it is what it is
        CHECK.due("below 0", x.law(0, 1), -3);
        CHECK.due("above 100", Check.of("house a 1 1 1 1 1;law death 9999 * 9999;").law(0, 0), 99980001L);
        x.marry(0, 1);
        CHECK.due("of one that is ENDED", x.law(0, 1), -3);
        CHECK.due("of who has its HEIRS", x.law(0, 0), 22);
    }

    @Says(promise = 8, sentence = "Long.MIN_VALUE: an ERROR, no such law, no such ones.")
    static void p08NoSuchLaw() {
        long none = Long.MIN_VALUE;
        BidLines x = Check.of("house a 1 1 1 1 1;house b 1 1 1 1 0;law death 1 / heirs;law raise 5;");
        CHECK.due("no ERROR", x.law(0, 0), 1);
        CHECK.due("an ERROR", x.law(0, 1), none);
        CHECK.due("a law that isn't told", x.law(1, 0), none);
        CHECK.due("told", x.law(2, 1), 5);
        CHECK.due("law(3, 0)", x.law(3, 0), none);
        for (int what : NO_WHAT) {
            CHECK.due("law(" + what + ", 0)", x.law(what, 0), none);
        }
        for (int house : Check.NO_HOUSE) {
            CHECK.due("law(2, " + house + ")", x.law(2, house), none);
        }
        CHECK.due("no HOUSES", Check.of("law raise 5;").law(2, 0), none);
    }

    // ---- 9 to 12: nod, marry, will, child

    @Says(promise = 9, sentence = "A HOUSE that is IN RAISES by a nod, whosever TURN it is, whatever E of raise: the BID then;")
    static void p09Nod() {
        BidLines x = Check.of(TWO);
        CHECK.due("b in a's TURN", x.nod(1), 40);
        CHECK.dueHouse(x, 1, 95, 150, 20, 50, 0, 1, 1, 40);
        CHECK.due("a behind it", x.nod(0), 50);
        CHECK.dueCounts(x, 2, 2, 2, 0, 50, 0, 0, 0, 2, 0, 0, 0, 2);
        x.go(1);
        CHECK.due("CALLED: a nod is ahead of the YEAR", x.count(6), 1);
        CHECK.due("b again", x.nod(1), 70);
        CHECK.due("nothing CALLED", x.count(6), 0);
        CHECK.due("LEADS", x.count(5), 1);
        CHECK.due("RAISED", x.house(1, 6), 2);
        CHECK.due("last BID", x.house(1, 7), 70);
    }

    private static void dueRefused(BidLines x, int house, int want) {
        String stands = Check.picture(x);
        CHECK.due("nod(" + house + ")", x.nod(house), want);
        CHECK.dueSame("all behind a nod that is refused", Check.picture(x), stands);
    }

    @Says(promise = 9, sentence = "-2: it LEADS,")
    static void p09ItLeads() {
        BidLines x = Check.of(TWO);
        x.nod(0);
        dueRefused(x, 0, -2);
        x.nod(1);
        dueRefused(x, 1, -2);
        CHECK.due("a doesn't LEAD any more", x.nod(0), 60);
    }

    @Says(promise = 9, sentence = "BID and STEP are more than BOUND,")
    static void p09BeyondBound() {
        BidLines x = Check.of(TWO);
        x.will(0, 29);
        dueRefused(x, 0, -2);
        x.will(0, 30);
        CHECK.due("as much", x.nod(0), 30);
    }

    @Says(promise = 9, sentence = "it isn't IN,")
    static void p09NotIn() {
        BidLines x = Check.of(TWO);
        x.marry(0, 1);
        dueRefused(x, 1, -2);
        x = Check.of("house a 9 0 1 20 0;law death 100;law raise 0;");
        x.go(1);
        dueRefused(x, 0, -2);
    }

    @Says(promise = 9, sentence = "the table has FALLEN;")
    static void p09Fallen() {
        BidLines x = Check.of(TWO);
        x.nod(0);
        x.go(2);
        CHECK.due("FALLEN", x.count(7), 1);
        dueRefused(x, 1, -2);
        dueRefused(x, 0, -2);
    }

    @Says(promise = 9, sentence = "NONE: no such HOUSE.")
    static void p09NoSuchHouse() {
        BidLines x = Check.of(TWO);
        for (int house : Check.NO_HOUSE) {
            dueRefused(x, house, -1);
        }
        x.nod(0);
        x.go(2);
        dueRefused(x, 2, -1);
    }

    @Says(promise = 10, sentence = "The second of two HOUSES that are IN marries into the first one:")
    static void p10Marry() {
        BidLines x = Check.of(TWO);
        CHECK.due("b into a", x.marry(0, 1), true);
        CHECK.dueHouse(x, 0, 195, 200, 10, 30, 1, 1, 0, -1);
        CHECK.dueHouse(x, 1, 95, 150, 20, 50, 0, 0, 0, -1);
        x = Check.of(TWO);
        CHECK.due("a into b", x.marry(1, 0), true);
        CHECK.dueHouse(x, 1, 195, 150, 20, 50, 1, 1, 0, -1);
        CHECK.dueHouse(x, 0, 100, 200, 10, 30, 1, 0, 0, -1);
        x = Check.of(TWO);
        x.nod(0);
        x.go(2);
        CHECK.due("when the table has FALLEN, too", x.marry(0, 1), true);
    }

    @Says(promise = 10, sentence = "BOUNDS in sum (9999 at most),")
    static void p10Bounds() {
        int[][] due = {{0, 0, 0}, {9000, 998, 9998}, {9000, 999, 9999}, {9000, 1000, 9999}, {9999, 9999, 9999}};
        for (int[] d : due) {
            BidLines x = Check.of(TWO);
            x.will(0, d[0]);
            x.will(1, d[1]);
            x.marry(0, 1);
            CHECK.due(d[0] + " and " + d[1], x.house(0, 0), d[2]);
        }
    }

    @Says(promise = 10, sentence = "HEIRS (9 at most),")
    static void p10Heirs() {
        int[][] due = {{0, 0, 0}, {4, 4, 8}, {4, 5, 9}, {5, 5, 9}, {9, 9, 9}, {9, 0, 9}};
        for (int[] d : due) {
            BidLines x = Check.of("house a 1 1 1 1 " + d[0] + ";house b 1 1 1 1 " + d[1] + ";");
            x.marry(0, 1);
            CHECK.due(d[0] + " and " + d[1], x.house(0, 4), d[2]);
            CHECK.due("those of the second one stay", x.house(1, 4), d[1]);
        }
    }

    @Says(promise = 10, sentence = "the second one is ENDED,")
    static void p10Ended() {
        BidLines x = Check.of(TWO);
        x.marry(0, 1);
        CHECK.due("a is IN", x.house(0, 5), 1);
        CHECK.due("b isn't", x.house(1, 5), 0);
        CHECK.due("IN", x.count(8), 1);
        CHECK.due("nobody DIED", x.count(9), 0);
        CHECK.due("the TURN", x.turn(), 0);
        x.go(1);
        CHECK.due("the TURN of YEAR 1", x.turn(), 0);
    }

    @Says(promise = 10, sentence = "what it LEADS the first one LEADS: true;")
    static void p10Leads() {
        BidLines x = Check.of(TWO);
        x.nod(1);
        CHECK.due("b into a", x.marry(0, 1), true);
        CHECK.due("a LEADS", x.count(5), 0);
        CHECK.due("the BID stays", x.count(4), 40);
        CHECK.due("a didn't RAISE", x.house(0, 6), 0);
        x = Check.of(TWO);
        x.nod(1);
        x.marry(1, 0);
        CHECK.due("b LEADS", x.count(5), 1);
        x = Check.of(TWO);
        x.marry(0, 1);
        CHECK.due("nobody LEADS", x.count(5), -1);
        x = Check.of(TWO + "house c 99 0 1 20 0;");
        x.nod(2);
        x.marry(0, 1);
        CHECK.due("c LEADS", x.count(5), 2);
    }

    @Says(promise = 10, sentence = "false: no such ones, alike, not both IN.")
    static void p10False() {
        BidLines x = Check.of(TWO + "house c 99 0 1 20 0;");
        x.marry(0, 1);
        String stands = Check.picture(x);
        for (int house : Check.NO_HOUSE) {
            if (house != 2) {
                CHECK.due("marry(0, " + house + ")", x.marry(0, house), false);
                CHECK.due("marry(" + house + ", 0)", x.marry(house, 0), false);
                CHECK.due("marry(" + house + ", " + house + ")", x.marry(house, house), false);
            }
        }
        for (int house = 0; house < 3; house++) {
            CHECK.due("alike " + house, x.marry(house, house), false);
            CHECK.due("the second one isn't IN", x.marry(house, 1), false);
            CHECK.due("the first one isn't IN", x.marry(1, house), false);
        }
        CHECK.dueSame("all", Check.picture(x), stands);
        CHECK.due("both IN", x.marry(2, 0), true);
    }

    @Says(promise = 11, sentence = "BOUND of a HOUSE that is IN is so much 0 .. 9999: true;")
    static void p11Will() {
        BidLines x = Check.of(TWO);
        for (int bound : new int[] {0, 1, 999, 1000, 9998, 9999, 101}) {
            CHECK.due("will(0, " + bound + ")", x.will(0, bound), true);
            CHECK.due("BOUND", x.house(0, 0), bound);
            CHECK.due("BOUND of b", x.house(1, 0), 95);
        }
        x.nod(0);
        x.go(2);
        CHECK.due("when the table has FALLEN, too", x.will(0, 5), true);
    }

    @Says(promise = 11, sentence = "false: no such ones,")
    static void p11NoSuchOnes() {
        BidLines x = Check.of(TWO);
        String stands = Check.picture(x);
        for (int house : Check.NO_HOUSE) {
            CHECK.due("will(" + house + ", 5)", x.will(house, 5), false);
        }
        for (int bound : new int[] {-1, 10000, Check.LEAST, Check.GREATEST}) {
            CHECK.due("will(0, " + bound + ")", x.will(0, bound), false);
        }
        CHECK.dueSame("all", Check.picture(x), stands);
    }

    @Says(promise = 11, sentence = "not IN,")
    static void p11NotIn() {
        BidLines x = Check.of(TWO);
        x.marry(0, 1);
        String stands = Check.picture(x);
        CHECK.due("not IN", x.will(1, 5), false);
        CHECK.dueSame("all", Check.picture(x), stands);
    }

    @Says(promise = 11, sentence = "it is so.")
    static void p11ItIsSo() {
        BidLines x = Check.of(TWO);
        CHECK.due("as told", x.will(0, 100), false);
        x.will(0, 101);
        CHECK.due("as it is now", x.will(0, 101), false);
        CHECK.due("as told again", x.will(0, 100), true);
        CHECK.due("what can be undone", x.count(12), 2);
    }

    @Says(promise = 12, sentence = "A HOUSE that is IN has one heir more: how many;")
    static void p12Child() {
        BidLines x = Check.of(TWO);
        for (int heirs = 1; heirs <= 9; heirs++) {
            CHECK.due("child", x.child(1), heirs);
            CHECK.due("HEIRS", x.house(1, 4), heirs);
        }
        CHECK.due("HEIRS of a", x.house(0, 4), 1);
        x.nod(0);
        x.go(2);
        CHECK.due("when the table has FALLEN, too", x.child(0), 2);
    }

    @Says(promise = 12, sentence = "NONE: no such one, not IN,")
    static void p12NoSuchOne() {
        BidLines x = Check.of(TWO);
        x.marry(0, 1);
        String stands = Check.picture(x);
        for (int house : Check.NO_HOUSE) {
            CHECK.due("child(" + house + ")", x.child(house), -1);
        }
        CHECK.due("not IN", x.child(1), -1);
        CHECK.dueSame("all", Check.picture(x), stands);
    }

    @Says(promise = 12, sentence = "it has 9.")
    static void p12ItHas9() {
        BidLines x = Check.of("house a 1 1 1 1 8;house b 1 1 1 1 9;");
        CHECK.due("the ninth", x.child(0), 9);
        CHECK.due("no tenth", x.child(0), -1);
        CHECK.due("told 9", x.child(1), -1);
        CHECK.due("HEIRS", x.house(1, 4), 9);
        CHECK.due("what can be undone", x.count(12), 1);
    }

    // ---- 13: go

    @Says(promise = 13, sentence = "So many YEARS (0 .. 99) go by: which one it is;")
    static void p13Go() {
        BidLines x = Check.of("house a 0 0 1 0 0;law death 0;");
        CHECK.due("none", x.go(0), 0);
        CHECK.due("AGE", x.house(0, 3), 0);
        CHECK.due("one", x.go(1), 1);
        CHECK.due("AGE", x.house(0, 3), 1);
        CHECK.due("ninety", x.go(90), 91);
        CHECK.due("AGE", x.house(0, 3), 91);
        CHECK.due("99", x.go(99), 190);
        // as many one by one
        BidLines y = Check.of("house a 50 0 1 20 9;house b 90 0 2 30 9;law death 30;law will bound - 1;seed 3;part p 7 2;");
        BidLines z = Check.of("house a 50 0 1 20 9;house b 90 0 2 30 9;law death 30;law will bound - 1;seed 3;part p 7 2;");
        y.go(25);
        for (int i = 0; i < 25; i++) {
            z.go(1);
        }
        CHECK.dueSame("25 YEARS at once", Check.picture(y), Check.picture(z));
    }

    @Says(promise = 13, sentence = "NONE, and none does: no such number,")
    static void p13NoSuchNumber() {
        BidLines x = Check.of(TWO);
        x.child(0);
        String stands = Check.picture(x);
        for (int n : new int[] {-1, 100, 101, Check.LEAST, Check.GREATEST}) {
            CHECK.due("go(" + n + ")", x.go(n), -1);
        }
        CHECK.dueSame("all", Check.picture(x), stands);
    }

    @Says(promise = 13, sentence = "behind 9000.")
    static void p13Behind9000() {
        BidLines x = Check.of("part p 7 0;");
        for (int i = 1; i <= 90; i++) {
            CHECK.due("go(99)", x.go(99), 99 * i);
        }
        int old = x.part(0, 1);
        for (int n : new int[] {91, 92, 99}) {
            CHECK.due("8910 and " + n, x.go(n), -1);
        }
        CHECK.due("none goes by", x.part(0, 1), old);
        CHECK.due("8910 and 89", x.go(89), 8999);
        CHECK.due("8999 and 2", x.go(2), -1);
        CHECK.due("8999 and 1", x.go(1), 9000);
        CHECK.due("9000 and 1", x.go(1), -1);
        CHECK.due("9000 and none", x.go(0), 9000);
        CHECK.due("the YEAR", x.count(3), 9000);
    }
}
