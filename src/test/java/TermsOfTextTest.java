/** Terms, ==== 1: the TEXT and its FAULTS, sentence by sentence. */
public final class TermsOfTextTest {
    private static final Check CHECK = new Check();
    private static final String[] LANGUAGE = {"house", "part", "calls", "open", "seed", "law", "death", "will", "raise",
        "or", "and", "not", "bid", "bound", "worth", "age", "heirs", "called", "year"};
    private static final String[] COMPARISONS = {"<", "<=", "=", "<>", ">=", ">"};
    private static final String SIX_HOUSES = six("house", " 1 1 1 1 1;");
    private static final String SIX_PARTS = six("part", " 1 1;");
    /** A law of 63 knots. */
    private static final String KNOTS_63 = "law death " + "1+".repeat(31) + "1;";

    public static void main(String[] args) throws IllegalAccessException {
        Sentences.run(TermsOfTextTest.class, CHECK);
    }

    private static String six(String word, String numbers) {
        StringBuilder lines = new StringBuilder();
        for (char name = 'a'; name <= 'f'; name++) {
            lines.append(word).append(' ').append(name).append(numbers);
        }
        return lines.toString();
    }

    // ---- the LINES

    @Says(promise = 0, sentence = "An object is used for at most 512 calls after it has been made;")
    static void the512thCallAnswers() {
        BidLines x = new BidLines();
        // ten calls feed and tell, 501 ask, and the last one asks too
        CHECK.due("feed and text", Check.tell(x, "house a 9 0 1 20 0;law death 0;" + " ".repeat(140)), 2);
        for (int call = 11; call <= 511; call++) {
            CHECK.due("call " + call, x.ahead(99, 0), 1);
        }
        CHECK.due("call 512", x.falls(0), 4);
    }

    @Says(promise = 0, sentence = "A TEXT: { LINE ';' }.")
    static void linesEachEndWithSemicolon() {
        CHECK.dueGood("", 0);
        CHECK.dueGood("calls 1;", 1);
        CHECK.dueGood("calls 1;open 1;seed 1;", 3);
        CHECK.dueFault("calls 1", 1, 7);
        CHECK.dueFault("calls 1 open 1;", 1, 8);
        CHECK.dueFault(";", 1, 0);
        CHECK.dueFault("calls 1;;", 1, 8);
    }

    @Says(promise = 0,
            sentence = "LINE: house W N N N N N | part W N N | calls N | open N | seed N | law LAW E.")
    static void linesHaveJustTheirTokens() {
        CHECK.dueGood("house a 1 1 1 1 1;part a 1 1;calls 1;open 1;seed 1;law will 1;", 6);
        String[] shorter = {"house", "house a", "house a 1", "house a 1 1", "house a 1 1 1", "house a 1 1 1 1", "part",
            "part a", "part a 1", "calls", "open", "seed", "law", "law will"};
        for (String line : shorter) {
            CHECK.dueFault(line + ";", 1, line.length());
        }
        String[] whole = {"house a 1 1 1 1 1", "part a 1 1", "calls 1", "open 1", "seed 1", "law will 1"};
        for (String line : whole) {
            CHECK.dueFault(line + " 1;", 1, line.length() + 1);
        }
        CHECK.dueFault("house 1 1 1 1 1;", 1, 6);
        CHECK.dueFault("part 1 1;", 1, 5);
        CHECK.dueFault("house a 1 a 1 1 1;", 1, 10);
        for (String word : LANGUAGE) {
            boolean begins = "house part calls open seed law".contains(word);
            CHECK.dueFault(word, 1, begins ? word.length() : 0);
        }
        CHECK.dueFault("a 1;", 1, 0);
        CHECK.dueFault("1;", 1, 0);
    }

    @Says(promise = 0, sentence = "LAW: death | will | raise.")
    static void lawsAreThree() {
        CHECK.dueGood("law death 1;law will 1;law raise 1;", 3);
        for (String word : LANGUAGE) {
            boolean law = "death will raise".contains(word);
            CHECK.dueFault("law " + word + " 1;", law ? 0 : 1, law ? -1 : 4);
        }
        CHECK.dueFault("law a 1;", 1, 4);
        CHECK.dueFault("law 1;", 1, 4);
    }

    @Says(promise = 0, sentence = "Words: small letters in a row;")
    static void wordsAreSmallLetters() {
        CHECK.dueGood("house a 1 1 1 1 1;house z 1 1 1 1 1;", 2);
        CHECK.dueGood("calls1;", 1);
        // the signs ahead of a and behind z, and capitals, are none
        CHECK.dueFault("house ` 1 1 1 1 1;", 1, 6);
        CHECK.dueFault("house { 1 1 1 1 1;", 1, 6);
        CHECK.dueFault("house aA 1 1 1 1 1;", 1, 7);
        CHECK.dueFault("House a 1 1 1 1 1;", 1, 0);
        // a blank parts a word
        CHECK.dueFault("hou se a 1 1 1 1 1;", 1, 0);
        CHECK.dueFault("house a b 1 1 1 1 1;", 1, 8);
    }

    @Says(promise = 0, sentence = "W: one of 1 .. 6 letters,")
    static void namesHaveOneToSixLetters() {
        CHECK.dueGood("house a 1 1 1 1 1;part b 1 1;", 2);
        CHECK.dueGood("house abcdef 1 1 1 1 1;part ghijkl 1 1;", 2);
        CHECK.dueFault("house abcdefg 1 1 1 1 1;", 1, 6);
        CHECK.dueFault("part abcdefg 1 1;", 1, 5);
    }

    @Says(promise = 0, sentence = "none of those of the language;")
    static void namesAreNoWordsOfTheLanguage() {
        for (String word : LANGUAGE) {
            CHECK.dueFault("house " + word + " 1 1 1 1 1;", 1, 6);
            CHECK.dueFault("part " + word + " 1 1;", 1, 5);
        }
        CHECK.dueGood("house houses 1 1 1 1 1;part par 1 1;part lawx 1 1;part orr 1 1;", 4);
    }

    @Says(promise = 0, sentence = "N: digits.")
    static void numbersAreDigits() {
        CHECK.due("zeros ahead", Check.of("open 00000000000000000000000000000000000000007;").count(4), 7);
        CHECK.due("all digits", Check.of("open 0012;").count(4), 12);
        CHECK.dueGood("seed 67890;", 1);
        // the signs ahead of 0 and behind 9 are no digits
        CHECK.dueFault("open /;", 1, 5);
        CHECK.dueFault("open :;", 1, 5);
        CHECK.dueFault("open -1;", 1, 5);
        CHECK.dueFault("open +1;", 1, 5);
        CHECK.dueFault("open 1.5;", 1, 6);
        CHECK.dueFault("open 1 5;", 1, 7);
        CHECK.dueFault("open 1x;", 1, 6);
    }

    @Says(promise = 0, sentence = "Blanks 10, 32.")
    static void blanksAreTwoBytes() {
        CHECK.dueGood(" \n\n  ", 0);
        CHECK.dueGood("\n house\na \n1 1\n1\n1 1 \n;\n", 1);
        for (char sign = 0; sign < 256; sign++) {
            boolean blank = sign == 10 || sign == 32;
            boolean letterOrDigit = sign >= 'a' && sign <= 'z' || sign >= '0' && sign <= '9';
            CHECK.dueFault("" + sign, blank ? 0 : 1, blank ? -1 : 0);
            if (!letterOrDigit) {
                CHECK.dueFault("calls" + sign + "3;", blank ? 0 : 1, blank ? -1 : 5);
            }
        }
    }

    // ---- E

    @Says(promise = 0, sentence = "E: A { or A }. A: B { and B }. B: not B | C.")
    static void orAndNot() {
        CHECK.dueValue("0 or 0 or 3", 1);
        CHECK.dueValue("1 and 2 and 0", 0);
        CHECK.dueValue("1 or 1 and 0", 1);
        CHECK.dueValue("0 and 0 or 1", 1);
        CHECK.dueValue("not 0 and 0", 0);
        CHECK.dueValue("not 1 or 1", 1);
        CHECK.dueValue("not not not 5", 0);
        CHECK.dueValue("not 1 = 2", 1);
        CHECK.dueFault("law will or 1;", 1, 9);
        CHECK.dueFault("law will and 1;", 1, 9);
        CHECK.dueFault("law will 1 or;", 1, 13);
        CHECK.dueFault("law will 1 and;", 1, 14);
        CHECK.dueFault("law will not;", 1, 12);
        CHECK.dueFault("law will not and 1;", 1, 13);
        CHECK.dueFault("law will 1 not 1;", 1, 11);
        CHECK.dueFault("law will 1 or or 1;", 1, 14);
    }

    @Says(promise = 0, sentence = "C: S [ ( < | <= | = | <> | >= | > ) S ].")
    static void oneComparisonAtMost() {
        for (String one : COMPARISONS) {
            CHECK.dueGood("law will 1 " + one + " 2;", 1);
            CHECK.dueFault("law will " + one + " 2;", 1, 9);
            CHECK.dueFault("law will 1 " + one + ";", 1, 11 + one.length());
            CHECK.dueFault("law will 1 " + one + " not 2;", 1, 12 + one.length());
            for (String other : COMPARISONS) {
                CHECK.dueFault("law will 1 " + one + " 2 " + other + " 3;", 1, 14 + one.length());
                CHECK.dueFault("law will (1 " + one + " 2 " + other + " 3);", 1, 15 + one.length());
                CHECK.dueGood("law will 1 " + one + " (2 " + other + " 3);", 1);
                CHECK.dueGood("law will (1 " + one + " 2) " + other + " 3;", 1);
                CHECK.dueGood("law will 1 " + one + " 2 and 3 " + other + " 4;", 1);
                CHECK.dueGood("law will 1 " + one + " 2 or 3 " + other + " 4;", 1);
            }
        }
        CHECK.dueFault("law will 1 < (2 = 3) < 4;", 1, 21);
        CHECK.dueFault("law will 1 + 2 < 3 + 4 < 5;", 1, 23);
        CHECK.dueGood("law will not 1 < 2 and not 3 < 4;", 1);
        // both sides are an S
        CHECK.dueValue("1 < 2 + 3", 1);
        CHECK.dueValue("2 + 3 < 1", 0);
        CHECK.dueValue("5 - 3 = 4 - 2", 1);
        CHECK.dueValue("2 * 3 > 5 * 1", 1);
    }

    @Says(promise = 0, sentence = "S: T { ( + | - ) T }. T: P { ( * | / ) P }.")
    static void sumsOfProducts() {
        CHECK.dueValue("1 - 2 - 3", -4);
        CHECK.dueValue("1 - 2 + 3", 2);
        CHECK.dueValue("100 / 10 / 5", 2);
        CHECK.dueValue("7 / 2 * 2", 6);
        CHECK.dueValue("2 + 3 * 4", 14);
        CHECK.dueValue("2 * 3 + 4", 10);
        CHECK.dueValue("9 - 8 / 4", 7);
        CHECK.dueValue("1 + 1 < 2 * 2", 1);
        for (String sign : new String[] {"+", "-", "*", "/"}) {
            CHECK.dueFault("law will " + sign + " 1;", 1, 9);
            CHECK.dueFault("law will 1 " + sign + ";", 1, 12);
            CHECK.dueFault("law will 1 " + sign + " - 1;", 1, 13);
            CHECK.dueFault("law will 1 " + sign + " not 1;", 1, 13);
        }
    }

    @Says(promise = 0, sentence = "P: N | NAME | '(' E ')';")
    static void bracketsHoldAnE() {
        CHECK.dueValue("(5)", 5);
        CHECK.dueValue("(2 + 3) * 4", 20);
        CHECK.dueValue("1 + (not 0 or 0)", 2);
        CHECK.dueValue("2 - (3 - (4 - 5)) - 6", -8);
        CHECK.dueFault("law will ();", 1, 10);
        CHECK.dueFault("law will (1;", 1, 11);
        CHECK.dueFault("law will (1", 1, 11);
        CHECK.dueFault("law will 1);", 1, 10);
        CHECK.dueFault("law will (1));", 1, 12);
        CHECK.dueFault("law will 1 (2);", 1, 11);
        CHECK.dueFault("law will (1) (2);", 1, 13);
        CHECK.dueFault("law will 1 2;", 1, 11);
        CHECK.dueFault("law will 1 bid;", 1, 11);
    }

    @Says(promise = 0, sentence = "N of E 0 .. 9999.")
    static void numbersOfAnE() {
        CHECK.dueValue("0", 0);
        CHECK.dueValue("9999", 9999);
        CHECK.dueValue("00000009999", 9999);
        CHECK.dueFault("law will 10000;", 2, 9);
        CHECK.dueFault("law will 1 + (10000);", 2, 14);
        // 4294967296 and 18446744073709551616 are 0 where bits are lost
        CHECK.dueFault("law will 4294967296;", 2, 9);
        CHECK.dueFault("law will 18446744073709551616;", 2, 9);
    }

    @Says(promise = 0, sentence = "NAME: bid bound worth age heirs called year.")
    static void namesOfAnE() {
        for (String word : LANGUAGE) {
            boolean name = "bid bound worth age heirs called year ".contains(word + " ");
            boolean not = word.equals("not");
            CHECK.dueFault("law will " + word + ";", name ? 0 : 1, name ? -1 : not ? 12 : 9);
        }
        CHECK.dueFault("law will a;", 1, 9);
        CHECK.dueFault("house a 1 1 1 1 1;law will a;", 1, 27);
        CHECK.dueFault("law will step;", 1, 9);
    }

    @Says(promise = 0, sentence = "A = (or > behind <) right behind < or > belongs to it.")
    static void signsOfTwo() {
        CHECK.dueValue("1<=1", 1);
        CHECK.dueValue("1>=1", 1);
        CHECK.dueValue("1<>1", 0);
        CHECK.dueFault("law will 1 < = 1;", 1, 13);
        CHECK.dueFault("law will 1 > = 1;", 1, 13);
        CHECK.dueFault("law will 1 < > 1;", 1, 13);
        CHECK.dueFault("law will 1 <\n= 1;", 1, 13);
        // nothing else belongs to a sign: the second one can't stand there
        CHECK.dueFault("law will 1 >< 1;", 1, 12);
        CHECK.dueFault("law will 1 >> 1;", 1, 12);
        CHECK.dueFault("law will 1 << 1;", 1, 12);
        CHECK.dueFault("law will 1 == 1;", 1, 12);
        CHECK.dueFault("law will 1 => 1;", 1, 12);
        CHECK.dueFault("law will 1 =< 1;", 1, 12);
        CHECK.dueFault("law will 1 <=> 1;", 1, 13);
        CHECK.dueFault("law will 1 <>= 1;", 1, 13);
        CHECK.dueFault("law will 1 <== 1;", 1, 13);
        CHECK.dueFault("law will 1 <", 1, 12);
    }

    // ---- what there is and its ranges

    /** The least and the most of a number are good, and told by house() or part(); one beyond is too much. */
    private static void dueRange(String ahead, String behind, int least, int most) {
        for (int number : new int[] {least, most}) {
            BidLines x = Check.of(ahead + number + behind);
            boolean house = ahead.startsWith("house");
            int what = ahead.split(" ").length - 2;
            CHECK.due(ahead + number, house ? x.house(0, what) : x.part(0, what), number);
        }
        CHECK.dueFault(ahead + (most + 1) + behind, 2, ahead.length());
        if (least > 0) {
            CHECK.dueFault(ahead + (least - 1) + behind, 2, ahead.length());
        }
    }

    @Says(promise = 0, sentence = "HOUSES (lines of people), at most 6:")
    static void sixHouses() {
        BidLines x = Check.of(SIX_HOUSES);
        CHECK.due("six", x.count(0), 6);
        CHECK.due("the last one's BOUND", x.house(5, 0), 1);
        CHECK.dueThrow(x, 6, 0, 1);
        CHECK.dueFault(SIX_HOUSES + "house g 1 1 1 1 1;", 2, SIX_HOUSES.length());
    }

    @Says(promise = 0, sentence = "BOUND 0 .. 999,")
    static void boundOfAHouse() {
        dueRange("house a ", " 1 1 1 1;", 0, 999);
    }

    @Says(promise = 0, sentence = "WORTH 0 .. 999,")
    static void worthOfAHouse() {
        dueRange("house a 1 ", " 1 1 1;", 0, 999);
    }

    @Says(promise = 0, sentence = "STEP 1 .. 99,")
    static void stepOfAHouse() {
        dueRange("house a 1 1 ", " 1 1;", 1, 99);
    }

    @Says(promise = 0, sentence = "AGE 0 .. 99,")
    static void ageOfAHouse() {
        dueRange("house a 1 1 1 ", " 1;", 0, 99);
    }

    @Says(promise = 0, sentence = "HEIRS 0 .. 9.")
    static void heirsOfAHouse() {
        dueRange("house a 1 1 1 1 ", ";", 0, 9);
    }

    @Says(promise = 0, sentence = "PARTS of the table, at most 6:")
    static void sixParts() {
        BidLines x = Check.of(SIX_PARTS);
        CHECK.due("six", x.count(1), 6);
        CHECK.due("the last one LASTS", x.part(5, 0), 1);
        CHECK.due("no seventh", x.part(6, 0), -1);
        CHECK.dueFault(SIX_PARTS + "part g 1 1;", 2, SIX_PARTS.length());
        CHECK.dueGood(SIX_HOUSES + SIX_PARTS, 12);
    }

    @Says(promise = 0, sentence = "LASTS 1 .. 99 YEARS,")
    static void lastsOfAPart() {
        dueRange("part a ", " 1;", 1, 99);
    }

    @Says(promise = 0, sentence = "OLD 0 .. 99 YEARS at first.")
    static void oldOfAPart() {
        dueRange("part a 1 ", ";", 0, 99);
    }

    @Says(promise = 0, sentence = "calls: 1 .. 20 (3 without).")
    static void callsOfAText() {
        String house = "house a 9 0 9 20 0;law death 0;";
        for (int calls : new int[] {1, 2, 19, 20}) {
            BidLines x = Check.of(house + "calls " + calls + ";");
            x.nod(0);
            CHECK.due("calls " + calls, x.falls(0), calls);
        }
        BidLines x = Check.of(house);
        x.nod(0);
        CHECK.due("without", x.falls(0), 3);
        CHECK.dueFault("calls 0;", 2, 6);
        CHECK.dueFault("calls 21;", 2, 6);
        // a text without, behind those with
        Check.tell(x, "calls 7;");
        Check.tell(x, "calls 7;");
        Check.tell(x, house);
        x.nod(0);
        CHECK.due("without again", x.falls(0), 3);
    }

    @Says(promise = 0, sentence = "open: the BID at first 0 .. 999 (0).")
    static void openOfAText() {
        CHECK.due("open 0", Check.of("open 0;").count(4), 0);
        CHECK.due("open 999", Check.of("open 999;").count(4), 999);
        CHECK.dueFault("open 1000;", 2, 5);
        BidLines x = Check.of("open 7;");
        Check.tell(x, "open 7;");
        Check.tell(x, "calls 7;");
        CHECK.due("without", x.count(4), 0);
    }

    @Says(promise = 0, sentence = "seed: 0 .. 99999 (0).")
    static void seedOfAText() {
        String house = "house a 0 0 1 20 9;law death 50;";
        for (int seed : new int[] {0, 1, 99998, 99999}) {
            dueSeed(Check.of(house + "seed " + seed + ";"), seed);
        }
        CHECK.dueFault("seed 100000;", 2, 5);
        CHECK.dueFault("seed 99999999999999999999;", 2, 5);
        BidLines x = Check.of(house + "seed 99999;");
        Check.tell(x, house + "seed 99999;");
        Check.tell(x, house);
        dueSeed(x, 0);
    }

    /** A head that dies by half, year by year, as the numbers from a seed on say. */
    private static void dueSeed(BidLines x, long seed) {
        long last = seed;
        int heirs = 9;
        for (int year = 0; year < 9; year++) {
            last = Check.nextNumber(last);
            heirs -= Check.drawn(last) < 50 ? 1 : 0;
            x.go(1);
            CHECK.due("seed " + seed + ", HEIRS behind year " + year, x.house(0, 4), heirs);
        }
    }

    @Says(promise = 0, sentence = "All numbered as they come;")
    static void numberedAsTheyCome() {
        BidLines x = Check.of("part y 5 0;house b 7 0 1 1 1;calls 2;part x 6 0;house a 8 0 1 1 1;");
        CHECK.due("b", x.named(0, Check.letters("b")), 0);
        CHECK.due("a", x.named(0, Check.letters("a")), 1);
        CHECK.due("y", x.named(1, Check.letters("y")), 0);
        CHECK.due("x", x.named(1, Check.letters("x")), 1);
        CHECK.due("BOUND of 0", x.house(0, 0), 7);
        CHECK.due("BOUND of 1", x.house(1, 0), 8);
        CHECK.due("LASTS of 0", x.part(0, 0), 5);
        CHECK.due("LASTS of 1", x.part(1, 0), 6);
    }

    @Says(promise = 0, sentence = "HOUSES, PARTS have names of their kind.")
    static void namesAreOfTheirKind() {
        BidLines x = Check.of("part b 1 1;part a 1 1;house a 1 1 1 1 1;house b 1 1 1 1 1;");
        CHECK.due("house a", x.named(0, Check.letters("a")), 0);
        CHECK.due("part a", x.named(1, Check.letters("a")), 1);
        CHECK.dueFault("house a 1 1 1 1 1;house a 1 1 1 1 1;", 3, 24);
        CHECK.dueFault("part a 1 1;part a 1 1;", 3, 16);
    }

    // ---- FAULTS

    @Says(promise = 0, sentence = "FAULTS, the first along the text (of one place the least), with its place:")
    static void theFirstFaultAlongTheText() {
        CHECK.dueFault("house a 1000 1000 0 100 10", 2, 8);
        CHECK.dueFault("calls 0;!", 2, 6);
        CHECK.dueFault("!;calls 0;", 1, 0);
        CHECK.dueFault("calls 1;calls 0;", 3, 8);
        CHECK.dueFault("house a 1 1 1 1 1;house a 1000 1 1 1 1;", 3, 24);
        CHECK.dueFault("law will 1;law will 10000;", 3, 15);
        // of one place: too much there, but it can't stand there either
        CHECK.dueFault("law will 1 10000;", 1, 11);
        CHECK.dueFault("house 1000 1 1 1 1 1;", 1, 6);
        CHECK.dueFault("law will ((((((((1 (", 1, 19);
        CHECK.dueFault(KNOTS_63 + "law will 1 1;", 1, KNOTS_63.length() + 11);
        CHECK.dueFault(KNOTS_63 + "law will 1 not 1;", 1, KNOTS_63.length() + 11);
        CHECK.dueFault(KNOTS_63 + "law will +", 1, KNOTS_63.length() + 9);
        // a seventh one is too much at the word of its LINE, whatever comes behind
        CHECK.dueFault(SIX_HOUSES + "house a", 2, SIX_HOUSES.length());
        CHECK.dueFault(SIX_PARTS + "part !", 2, SIX_PARTS.length());
    }

    @Says(promise = 0, sentence = "1 a TOKEN that is none")
    static void faultOfATokenThatIsNone() {
        for (String sign : new String[] {"!", "%", ".", ",", "A", "Z", "[", "'", "\"", "\t", "\r", "\u00e9", "\u00ff",
            "\u0080", "\u0000"}) {
            CHECK.dueFault(sign, 1, 0);
            CHECK.dueFault("calls " + sign + ";", 1, 6);
            CHECK.dueFault("calls 3" + sign + ";", 1, 7);
            CHECK.dueFault("law will 1 " + sign + " 1;", 1, 11);
            CHECK.dueFault("law will " + sign + ";", 1, 9);
        }
    }

    @Says(promise = 0, sentence = "(a word of more than 6 letters that isn't of the language, too)")
    static void faultOfALongWord() {
        CHECK.dueFault("abcdefg", 1, 0);
        CHECK.dueFault("house abcdefg", 1, 6);
        CHECK.dueFault("house abcdefghijklmnopqrstuvwxyzabcdefghijklmnopqrstuvwxyz", 1, 6);
        CHECK.dueFault("law abcdefg", 1, 4);
        CHECK.dueFault("law will abcdefg", 1, 9);
        CHECK.dueFault("calls abcdefg", 1, 6);
        // it begins as a word of the language does
        CHECK.dueFault("law will calledx;", 1, 9);
        CHECK.dueFault("houseabc a 1 1 1 1 1;", 1, 0);
    }

    @Says(promise = 0, sentence = "or can't stand there")
    static void faultOfATokenThatCantStandThere() {
        String[] tokens = {"1", "a", "house", "law", "bid", "not", "and", "(", ")", "<", "+", ";"};
        for (String token : tokens) {
            boolean begins = token.equals("house") || token.equals("law");
            CHECK.dueFault("calls 1;" + token, 1, begins ? 8 + token.length() : 8);
            boolean number = token.equals("1");
            CHECK.dueFault("calls " + token, 1, number ? 7 : 6);
            CHECK.dueFault("house a " + token, 1, number ? 9 : 8);
            boolean name = token.equals("a");
            CHECK.dueFault("house " + token, 1, name ? 7 : 6);
            boolean end = token.equals(";");
            CHECK.dueFault("open 5 " + token, end ? 0 : 1, end ? -1 : 7);
        }
    }

    @Says(promise = 0, sentence = "(the length, if more must come).")
    static void faultAtTheLength() {
        String[] cut = {"house", "house a", "house a 1 1 1 1 1", "part", "part a 1", "calls", "calls 3", "open", "seed",
            "law", "law will", "law will 1", "law will 1 +", "law will (", "law will (1", "law will not", "law will 1 <"};
        for (String text : cut) {
            CHECK.dueFault(text, 1, text.length());
            CHECK.dueFault(text + " \n ", 1, text.length() + 3);
            CHECK.dueFault("law death 1;" + text, 1, text.length() + 12);
        }
    }

    @Says(promise = 0, sentence = "(the length, if more must come).")
    static void faultAtTheLengthOfTheTextAlone() {
        // bytes of the tape behind the text's first n don't count
        BidLines x = new BidLines();
        Check.put(x, "calls 3;");
        CHECK.due("its first 7 bytes", x.text(7), -1);
        CHECK.due("kind", x.fault(0), 1);
        CHECK.due("place", x.fault(1), 7);
        // also where they would make a token longer
        String[] whole = {"house", "open 12;", "law will 1 <= 1;", "law will 1 <> 1;", "law will 1 >= 1;", "open  "};
        int[] cut = {3, 6, 12, 12, 12, 5};
        int[] place = {0, 6, 12, 12, 12, 5};
        for (int i = 0; i < whole.length; i++) {
            Check.put(x, whole[i]);
            CHECK.due(cut[i] + " bytes of '" + whole[i] + "'", x.text(cut[i]), -1);
            CHECK.due("kind", x.fault(0), 1);
            CHECK.due("place", x.fault(1), place[i]);
        }
        CHECK.dueFault(" ".repeat(694) + "open 5", 1, 700);
        CHECK.dueFault(" ".repeat(688) + "law will 1 <", 1, 700);
        CHECK.dueFault(" ".repeat(696) + "open", 1, 700);
    }

    @Says(promise = 0, sentence = "2 too much (at it): a number beyond what is said,")
    static void faultOfANumberBeyond() {
        CHECK.dueFault("house a 1000 1 1 1 1;", 2, 8);
        CHECK.dueFault("house a 1 1000 1 1 1;", 2, 10);
        CHECK.dueFault("house a 1 1 100 1 1;", 2, 12);
        CHECK.dueFault("house a 1 1 0 1 1;", 2, 12);
        CHECK.dueFault("house a 1 1 1 100 1;", 2, 14);
        CHECK.dueFault("house a 1 1 1 1 10;", 2, 16);
        CHECK.dueFault("part a 100 1;", 2, 7);
        CHECK.dueFault("part a 0 1;", 2, 7);
        CHECK.dueFault("part a 1 100;", 2, 9);
        CHECK.dueFault("calls 21;", 2, 6);
        CHECK.dueFault("calls 0;", 2, 6);
        CHECK.dueFault("open 1000;", 2, 5);
        CHECK.dueFault("seed 100000;", 2, 5);
        CHECK.dueFault("law will 10000;", 2, 9);
        // as it is at the number, it doesn't matter that more must come
        CHECK.dueFault("calls 21", 2, 6);
        String long700 = "seed 1" + "0".repeat(690) + ";";
        CHECK.dueFault(long700, 2, 5);
    }

    @Says(promise = 0, sentence = "a seventh house and so on (at the word of the LINE),")
    static void faultOfASeventh() {
        CHECK.dueGood(SIX_HOUSES + SIX_PARTS + "calls 1;", 13);
        CHECK.dueFault(SIX_HOUSES + "house g 1 1 1 1 1;", 2, SIX_HOUSES.length());
        CHECK.dueFault(SIX_PARTS + "part g 1 1;", 2, SIX_PARTS.length());
        CHECK.dueFault(SIX_PARTS + SIX_HOUSES + "calls 1; part g 1 1;", 2, SIX_PARTS.length() + SIX_HOUSES.length() + 9);
        CHECK.dueFault(SIX_HOUSES + "\n house", 2, SIX_HOUSES.length() + 2);
    }

    @Says(promise = 0, sentence = "a ninth '(' open,")
    static void faultOfANinthBracket() {
        String eight = "(".repeat(8) + "1" + ")".repeat(8);
        CHECK.dueGood("law will " + eight + ";", 1);
        CHECK.dueFault("law will (" + eight + ");", 2, 17);
        CHECK.dueFault("law will " + "(".repeat(9), 2, 17);
        // those that are closed don't count
        CHECK.dueGood("law will " + eight + " + " + eight + ";law raise " + eight + ";", 2);
        CHECK.dueGood("law will " + "(1) + ".repeat(20) + "1;", 1);
        CHECK.dueFault("law will " + eight + " + (" + eight + ");", 2, 37);
        CHECK.dueFault("law will ((((((((1) + (1) + ((1))));", 2, 29);
        // nor do those of a text with a FAULT
        BidLines x = new BidLines();
        CHECK.due("nine", Check.tell(x, "law will 2 * (3 + " + "(".repeat(8)), -1);
        CHECK.due("eight", Check.tell(x, "house a 1 1 1 1 1;law will " + eight + " + 6;"), 2);
        CHECK.due("its value", x.law(1, 0), 7);
        CHECK.due("signs of one with a FAULT", Check.tell(x, "law will 2 + 3 * 4 + !"), -1);
        CHECK.due("don't count either", Check.tell(x, "house a 1 1 1 1 1;law will " + eight + ";"), 2);
        CHECK.due("its value", x.law(1, 0), 1);
    }

    @Says(promise = 0, sentence = "a 65th KNOT of all E (N, NAMES, signs, not, and, or: one each).")
    static void faultOfA65thKnot() {
        CHECK.due("63 knots", Check.of(KNOTS_63).count(2), 63);
        CHECK.due("64 knots", Check.of(KNOTS_63 + "law will 1;").count(2), 64);
        int at = KNOTS_63.length() + 11;
        for (String sign : new String[] {"+", "-", "*", "/", "<", "<=", "=", "<>", ">=", ">", "and", "or"}) {
            CHECK.dueFault(KNOTS_63 + "law will 1 " + sign + " 1;", 2, at);
            CHECK.due(sign, Check.of("law will 1 " + sign + " bid;").count(2), 3);
        }
        CHECK.dueFault(KNOTS_63 + "law will not 1;", 2, at + 2);
        CHECK.dueFault(KNOTS_63 + "law will not bid;", 2, at + 2);
        CHECK.dueFault(KNOTS_63 + "law will 1;law raise 1;", 2, at + 10);
        CHECK.dueFault(KNOTS_63 + "law will 1;law raise year;", 2, at + 10);
        CHECK.dueFault(KNOTS_63 + "law will 1;law raise not 1;", 2, at + 10);
        CHECK.due("not", Check.of("law will not not 1;").count(2), 3);
        for (String name : new String[] {"bid", "bound", "worth", "age", "heirs", "called", "year", "9999"}) {
            CHECK.due(name, Check.of("law will " + name + ";").count(2), 1);
        }
        // what isn't named there isn't one
        CHECK.due("'(' and ')'", Check.of(KNOTS_63 + "law will ((((1))));").count(2), 64);
        // all 64 of them, and eight '(', are worked out
        CHECK.dueValue("not ".repeat(63) + "0", 1);
        CHECK.dueValue("not ".repeat(62) + "0", 0);
        CHECK.dueValue("((((((((" + "not ".repeat(63) + "0))))))))", 1);
        CHECK.dueValue("not ".repeat(55) + "((((((((not not not not not not not not 0))))))))", 1);
        // a text begins with none, also behind one with a FAULT
        BidLines x = Check.of(KNOTS_63 + "law will 1;");
        CHECK.due("65 knots", Check.tell(x, KNOTS_63 + "law will 1 + 1;"), -1);
        CHECK.due("64 again", Check.tell(x, KNOTS_63 + "law will 1;"), 2);
    }

    @Says(promise = 0, sentence = "3 told already: a name of its kind (at W),")
    static void faultOfANameToldAlready() {
        CHECK.dueFault("house a 1 1 1 1 1;house b 1 1 1 1 1;house a", 3, 42);
        CHECK.dueFault("part a 1 1;part b 1 1; part b", 3, 28);
        CHECK.dueGood("part a 1 1;house a 1 1 1 1 1;", 2);
        CHECK.dueGood("part a 1 1;part aa 1 1;part ab 1 1;part aaaaaa 1 1;part aaaaa 1 1;", 5);
        // the sixth of the first five
        String five = SIX_HOUSES.substring(0, SIX_HOUSES.length() / 6 * 5);
        for (char name = 'a'; name <= 'e'; name++) {
            CHECK.dueFault(five + "house " + name + " 1 1 1 1 1;", 3, five.length() + 6);
        }
        CHECK.dueGood(five + "house f 1 1 1 1 1;", 6);
    }

    @Says(promise = 0, sentence = "calls, open, seed (at the word),")
    static void faultOfASettingToldAlready() {
        for (String word : new String[] {"calls", "open", "seed"}) {
            CHECK.dueFault(word + " 1;" + word + " 1;", 3, word.length() + 3);
            CHECK.dueFault(word + " 1;part a 1 1;" + word, 3, word.length() + 14);
            CHECK.dueFault(word + " 1; " + word + " 100000;", 3, word.length() + 4);
        }
        CHECK.dueGood("calls 1;open 1;seed 1;", 3);
        // a text that had one, with a FAULT or without, is no more
        BidLines x = Check.of("calls 1;");
        CHECK.due("again", Check.tell(x, "calls 1;open 1000;"), -1);
        CHECK.due("again", Check.tell(x, "calls 1;open 1;"), 2);
    }

    @Says(promise = 0, sentence = "a law of its LAW (at LAW).")
    static void faultOfALawToldAlready() {
        for (String law : new String[] {"death", "will", "raise"}) {
            CHECK.dueFault("law " + law + " 1;law " + law + " 1;", 3, law.length() + 11);
            CHECK.dueFault("law " + law + " 1;calls 1;law " + law, 3, law.length() + 19);
        }
        CHECK.dueFault("law will 1;law death 1;law raise 1;law death 1;", 3, 39);
        BidLines x = Check.of("law will 1;");
        CHECK.due("again", Check.tell(x, "law will 1;law raise;"), -1);
        CHECK.due("again", Check.tell(x, "law will 1;"), 1);
    }
}
