/** Promises 1 to 5: a new object, the tape, the text and its faults, names. */
public final class TextTest {
    private static final Check CHECK = new Check();

    public static void main(String[] args) {
        newObject();
        tape();
        textAnswers();
        textsInARow();
        faultsOfTokens();
        faultsOfSigns();
        faultsOfTooMuch();
        faultsOfKnots();
        faultsOfTold();
        faultsStay();
        goodTexts();
        names();
        CHECK.finish("TextTest");
    }

    private static void newObject() {
        BidLines x = new BidLines();
        int[] counts = {0, 0, 0, 0, 0, -1, 0, 0, 0, 0, 0, 0, 0, -1};
        for (int i = 0; i < counts.length; i++) {
            CHECK.due("new count(" + i + ")", x.count(i), counts[i]);
        }
        CHECK.due("new fault(0)", x.fault(0), 0);
        CHECK.due("new fault(1)", x.fault(1), -1);
        CHECK.due("new back()", x.back(), -1);
        CHECK.due("new undo()", x.undo(), -1);
        CHECK.due("new text(1)", x.text(1), -2);
        CHECK.due("new text(0)", x.text(0), 0);
        CHECK.due("new turn()", x.turn(), -2);
        CHECK.due("new go(99)", x.go(99), 99);
        CHECK.due("new falls(0)", x.falls(0), -2);
        CHECK.due("new see", x.see(1, 0, true), 0);
        CHECK.due("new: all known", x.count(11), 1);
    }

    private static void tape() {
        BidLines x = new BidLines();
        for (int i = 1; i <= 35; i++) {
            CHECK.due("feed " + i, x.feed(0x20202020, 0x20202020, 0x20202020, 0x20202020, 0x20202020), 20 * i);
        }
        CHECK.due("feed 36", x.feed(0, 0, 0, 0, 0), -1);
        CHECK.due("text(701)", x.text(701), -2);
        CHECK.due("text(-1)", x.text(-1), -2);
        CHECK.due("text(least)", x.text(Integer.MIN_VALUE), -2);
        CHECK.due("the tape stays", x.feed(0, 0, 0, 0, 0), -1);
        CHECK.due("text(700) of blanks", x.text(700), 0);
        CHECK.due("the tape is empty", x.text(1), -2);
        CHECK.due("'open 5;calls 7;seed'", x.feed(0x6f70656e, 0x20353b63, 0x616c6c73, 0x20373b73, 0x65656420), 20);
        CHECK.due("its first 15 bytes", x.text(15), 2);
        CHECK.due("the bid", x.count(4), 5);
        CHECK.due("the rest of it is gone", x.feed(0, 0, 0, 0, 0), 20);
        x.text(0);
        CHECK.due("bytes beyond 127", x.feed(0xff202020, 0, 0, 0, 0), 20);
        CHECK.due("are none of a text", x.text(20), -1);
        CHECK.due("kind", x.fault(0), 1);
        CHECK.due("place", x.fault(1), 0);
    }

    private static void textAnswers() {
        BidLines x = Check.of("house a 100 200 10 30 1;part t 9 1;calls 2;open 20;law raise 1;");
        x.go(3);
        x.keep();
        x.nod(0);
        x.see(1, 1, true);
        x.known(0);
        x.child(0);
        CHECK.due("six lines", Check.tell(x, "house b 90 80 7 6 5;\nopen 30;seed 4;law will 1;law death 2;calls 4;"), 6);
        int[] counts = {1, 0, 2, 0, 30, -1, 0, 0, 1, 0, 0, 0, 0};
        for (int i = 0; i < counts.length; i++) {
            CHECK.due("count(" + i + ")", x.count(i), counts[i]);
        }
        CHECK.due("no image", x.back(), -1);
        CHECK.due("nothing to undo", x.undo(), -1);
        CHECK.due("seen", x.see(1, 0, true), 0);
        CHECK.due("all known", x.count(11), 1);
        CHECK.due("raise isn't told any more", x.law(2, 0), Long.MIN_VALUE);
        int[] house = {90, 80, 7, 6, 5, 1, 0, -1};
        for (int i = 0; i < house.length; i++) {
            CHECK.due("house(0, " + i + ")", x.house(0, i), house[i]);
        }
    }

    /** Nothing of an earlier text is left, with a fault or without. */
    private static void textsInARow() {
        BidLines x = new BidLines();
        String full = "house a 1 1 1 88 0;house b 1 1 1 1 1;part p 1 1;calls 1;open 7;seed 9;law death ("
                + ones(20) + ") * 100;law will 1;law raise 1;";
        for (int i = 0; i < 5; i++) {
            CHECK.due("nine lines", Check.tell(x, full), 9);
            CHECK.due("knots", x.count(2), 43);
            x.go(3);
            CHECK.due("died", x.count(9), 3);
            CHECK.due("a fault in a formula", Check.tell(x, "law death 1 < (2 + (3 and"), -1);
            CHECK.due("one house", Check.tell(x, "house c 9 9 1 20 9;"), 1);
            int[] counts = {1, 0, 0, 0, 0, -1, 0, 0, 1, 0, 0, 0, 0};
            for (int k = 0; k < counts.length; k++) {
                CHECK.due("count(" + k + ")", x.count(k), counts[k]);
            }
            for (int what = 0; what < 3; what++) {
                CHECK.due("no law " + what, x.law(what, 0), Long.MIN_VALUE);
            }
            CHECK.due("a is gone", x.named(0, Check.letters("a")), -1);
            CHECK.due("p is gone", x.named(1, Check.letters("p")), -1);
            CHECK.due("calls 3", x.falls(0), 4);
            CHECK.due("seed 0", Check.tell(x, "house a 1 1 1 20 9;law death 1;"), 2);
            x.go(1);
            CHECK.due("the first number is 0", x.count(9), 1);
            CHECK.due("full again", Check.tell(x, "law will 1 < 2;calls 2;"), 2);
        }
    }

    private static void fault(String text, int kind, int place) {
        CHECK.dueFault(text, kind, place);
    }

    private static void good(String text) {
        CHECK.dueFault(text, 0, -1);
    }

    private static void faultsOfTokens() {
        fault("house", 1, 5);
        fault("house  ", 1, 7);
        fault("house a 1 1 1 1 1", 1, 17);
        fault("house a 1 1 1 1;", 1, 15);
        fault("house a 1 1 1 1 1 1;", 1, 18);
        fault("house a 1 1 1 1 1 house", 1, 18);
        fault("house 5 1 1 1 1 1;", 1, 6);
        fault("house abcdefg 1 1 1 1 1;", 1, 6);
        fault("house law 1 1 1 1 1;", 1, 6);
        fault("house called 1 1 1 1 1;", 1, 6);
        fault("part year 1 1;", 1, 5);
        fault("part p 1;", 1, 8);
        fault("part p 1 x;", 1, 9);
        fault(";", 1, 0);
        fault("calls 3;;", 1, 8);
        fault("calls;", 1, 5);
        fault("calls x;", 1, 6);
        fault("open -1;", 1, 5);
        fault("seed 1.5;", 1, 6);
        fault("seed 1,", 1, 6);
        fault("House", 1, 0);
        fault("\thouse a 1 1 1 1 1;", 1, 0);
        fault("death 1;", 1, 0);
        fault("law", 1, 3);
        fault("law house 1;", 1, 4);
        fault("law death", 1, 9);
        fault("law death;", 1, 9);
        fault("law death 1", 1, 11);
        fault("law death foo;", 1, 10);
        fault("law death death;", 1, 10);
        fault("law raise calledx;", 1, 10);
        fault("law raise calle;", 1, 10);
    }

    private static void faultsOfSigns() {
        fault("law death 1 < 2 < 3;", 1, 16);
        fault("law death 1 = 2 + 1 <> 3;", 1, 20);
        fault("law death (1 < 2 > 3);", 1, 17);
        fault("law death 1 < = 2;", 1, 14);
        fault("law death 1 > = 2;", 1, 14);
        fault("law death 1 < > 2;", 1, 14);
        fault("law death 1 >< 2;", 1, 13);
        fault("law death 1 => 2;", 1, 13);
        fault("law death 1 <=> 2;", 1, 14);
        fault("law death 1 = not 2;", 1, 14);
        fault("law death 1 + not 2;", 1, 14);
        fault("law death 1 not 2;", 1, 12);
        fault("law death (1 not 2);", 1, 13);
        fault("law death not;", 1, 13);
        fault("law death 1 and;", 1, 15);
        fault("law death or 1;", 1, 10);
        fault("law death 1 2;", 1, 12);
        fault("law death 1 bid;", 1, 12);
        fault("law death 1 (2);", 1, 12);
        fault("law death -1;", 1, 10);
        fault("law death 1 - - 1;", 1, 14);
        fault("law death (1;", 1, 12);
        fault("law death 1);", 1, 11);
        fault("law death ();", 1, 11);
        fault("law death (1));", 1, 13);
        fault("law death (1 +);", 1, 14);
        fault("law death (1", 1, 12);
        fault("law death 1 % 2;", 1, 12);
        fault("law death 1 ! 2;", 1, 12);
    }

    private static void faultsOfTooMuch() {
        String[] least = {"0", "0", "1", "0", "0"};
        String[] most = {"999", "999", "99", "99", "9"};
        String[] above = {"1000", "1000", "100", "100", "10"};
        for (int i = 0; i < 5; i++) {
            StringBuilder ahead = new StringBuilder("house a");
            for (int k = 0; k < i; k++) {
                ahead.append(" 1");
            }
            String behind = " 1 1 1 1 1".substring(0, 2 * (4 - i)) + ";";
            good(ahead + " " + least[i] + behind);
            good(ahead + " " + most[i] + behind);
            fault(ahead + " " + above[i] + behind, 2, ahead.length() + 1);
        }
        fault("house a 1 1 0 1 1;", 2, 12);
        good("part p 1 0;part q 99 99;");
        fault("part p 0 0;", 2, 7);
        fault("part p 100 0;", 2, 7);
        fault("part p 1 100;", 2, 9);
        good("calls 1;open 0;seed 0;");
        good("calls 20;open 999;seed 99999;");
        fault("calls 0;", 2, 6);
        fault("calls 21;", 2, 6);
        fault("open 1000;", 2, 5);
        fault("seed 100000;", 2, 5);
        fault("seed 99999999999999999999999999;", 2, 5);
        fault("seed 4294967296;", 2, 5);
        good("seed 0000000000000000099999;");
        good("law death 9999;");
        fault("law death 10000;", 2, 10);
        fault("law death 1 + 4294967297;", 2, 14);
        good("law death ((((((((1))))))));");
        good("law death ((((((((1)))))))) + ((((((((1))))))));");
        fault("law death (((((((((1)))))))));", 2, 18);
        fault("law death ((((((((1 ((((", 1, 20);
        StringBuilder houses = new StringBuilder();
        StringBuilder parts = new StringBuilder();
        for (char c = 'a'; c < 'g'; c++) {
            houses.append("house ").append(c).append(" 1 1 1 1 1;");
            parts.append("part ").append(c).append(" 1 1;");
        }
        good(houses.toString() + parts);
        fault(houses + "house a", 2, 108);
        fault(parts + "part !", 2, 66);
    }

    private static String ones(int count) {
        return "1" + "+1".repeat(count - 1);
    }

    private static void faultsOfKnots() {
        BidLines x = Check.of("law death " + ones(32) + ";law will 1;");
        CHECK.due("knots", x.count(2), 64);
        fault("law death " + ones(33) + ";", 2, 74);
        fault("law death " + ones(32) + ";law will 1;law raise 1;", 2, 95);
        fault("law death " + ones(32) + ";law will 1 + 1;", 2, 85);
        fault("law death " + ones(32) + ";law will 1 and 1;", 2, 85);
        fault("law death " + ones(32) + ";law will 1 < 1;", 2, 85);
        fault("law death " + ones(32) + ";law will not 1;", 2, 87);
        fault("law death " + ones(32) + ";law will (1) or 1;", 2, 87);
        fault("law death " + ones(32) + ";law will 1 not 1;", 1, 85);
        fault("law death " + ones(32) + ";law will 1 1;", 1, 85);
        fault("law death " + ones(32) + ";law will 1 < 1 <", 2, 85);
        good("law death " + "not ".repeat(63) + "1;");
        fault("law death " + "not ".repeat(64) + "1;", 2, 266);
        fault("law death " + "not ".repeat(65) + "1;", 2, 266);
        CHECK.due("knots of all signs", Check.of("law death not bid <= (1 + 2) * 3 or 4 and 5 - 6 / 7;").count(2), 16);
    }

    private static void faultsOfTold() {
        fault("house a 1 1 1 1 1;house a 1 1 1 1 1;", 3, 24);
        fault("house a 1 1 1 1 1;house b 1 1 1 1 1;house a", 3, 42);
        fault("part ab 1 1;part abc 1 1;part ab 1 1;", 3, 30);
        good("house a 1 1 1 1 1;part a 1 1;");
        fault("calls 3;calls 99;", 3, 8);
        fault("open 3;calls 1;open x;", 3, 15);
        fault("seed 3;seed", 3, 7);
        fault("law will 1;law will !", 3, 15);
        fault("law death 1;law raise 1;law death 1;", 3, 28);
        fault("law raise 1;law raise", 3, 16);
    }

    private static void faultsStay() {
        BidLines x = Check.of("house a 100 200 10 30 1;open 7;");
        x.nod(0);
        x.see(1, 1, true);
        x.keep();
        CHECK.due("a text with a fault", Check.tell(x, "house b 1 1 1 1 1;open 7;calls 99;"), -1);
        CHECK.due("its fault", x.fault(0), 2);
        CHECK.due("its place", x.fault(1), 31);
        CHECK.due("fault(2)", x.fault(2), -1);
        CHECK.due("fault(-1)", x.fault(-1), -1);
        CHECK.due("the tape is empty", x.feed(0, 0, 0, 0, 0), 20);
        CHECK.due("-2", x.text(21), -2);
        CHECK.due("-2 is not told of", x.fault(0), 2);
        CHECK.due("name stays", x.named(0, Check.letters("a")), 0);
        CHECK.due("bid stays", x.count(4), 17);
        CHECK.due("seen stays", x.count(10), 1);
        CHECK.due("undo stays", x.count(12), 1);
        CHECK.due("image stays", x.back(), 0);
        CHECK.due("calls stay", x.falls(0), 3);
        CHECK.due("a good one", x.text(0), 0);
        CHECK.due("no fault", x.fault(0), 0);
        CHECK.due("no place", x.fault(1), -1);
    }

    private static void goodTexts() {
        good("");
        good("  \n ");
        good("house a1 1 1 1 1;");
        good("house abcdef\n1 1 1 1 1 ;\n");
        good("calls3;open4;");
        good("law death not not 1;");
        good("law death 1<2 and 3<=4 or 5=6 and 7<>8 or not 9>=10 and 11>12;");
        good("law death (1 < 2) < (3 < 4);");
        good("law death (not 1) + 2;");
        good("law death((1));");
        good("law raise called+bid;");
        CHECK.due("three settings", Check.tell(new BidLines(), "calls 3;open 4;seed 5;"), 3);
        BidLines x = Check.of("house a 9 9 9 9 9;");
        CHECK.due("open without", x.count(4), 0);
        x.nod(0);
        CHECK.due("calls without", x.falls(0), 3);
    }

    private static void names() {
        BidLines x = Check.of("house a 1 1 1 1 1;house zz 1 1 1 1 1;house abcdef 1 1 1 1 1;part q 1 1;part a 1 1;");
        CHECK.due("house a", x.named(0, 1 << 25), 0);
        CHECK.due("house zz", x.named(0, 26 << 25 | 26 << 20), 1);
        CHECK.due("house abcdef", x.named(0, ((((1 << 5 | 2) << 5 | 3) << 5 | 4) << 5 | 5) << 5 | 6), 2);
        CHECK.due("part q", x.named(1, 17 << 25), 0);
        CHECK.due("part a", x.named(1, 1 << 25), 1);
        CHECK.due("no house q", x.named(0, 17 << 25), -1);
        CHECK.due("no part zz", x.named(1, 26 << 25 | 26 << 20), -1);
        CHECK.due("a at the wrong end", x.named(0, 1), -1);
        CHECK.due("no letters", x.named(0, 0), -1);
        CHECK.due("more bits", x.named(0, 1 << 25 | 1 << 30), -1);
        CHECK.due("below 0", x.named(0, 1 << 25 | 1 << 31), -1);
        CHECK.due("named(2)", x.named(2, 1 << 25), -1);
        CHECK.due("named(-1)", x.named(-1, 1 << 25), -1);
    }
}
