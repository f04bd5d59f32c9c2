/** Promises 36 to 39: what was seen, strikes, by how many it is known, bounds. */
public final class SeenTest {
    private static final Check CHECK = new Check();
    private static final String THREE = "house a 100 200 10 30 1;house b 95 150 20 50 0;house c 30 500 5 89 2;"
            + "part t 50 10;part l 5 0;calls 2;open 20;seed 0;";

    public static void main(String[] args) {
        seeing();
        striking();
        knowing();
        bounds();
        nothingByCall();
        CHECK.finish("SeenTest");
    }

    private static void seeing() {
        BidLines x = Check.of(THREE);
        CHECK.due("years 0", x.see(0, 5, true), -1);
        CHECK.due("years 100", x.see(100, 5, true), -1);
        CHECK.due("bid -1", x.see(1, -1, true), -1);
        CHECK.due("bid 10000", x.see(1, 10000, true), -1);
        CHECK.due("strike of none", x.strike(0), -1);
        CHECK.due("none is seen", x.count(10), 0);
        CHECK.due("least", x.see(1, 0, true), 0);
        CHECK.due("most", x.see(99, 9999, false), 1);
        CHECK.due("strike", x.strike(1), 2);
        CHECK.due("strike of a strike", x.strike(2), 3);
        for (int i = 4; i < 24; i++) {
            CHECK.due("see", x.see(1, 0, false), i);
        }
        CHECK.due("25th", x.see(1, 0, true), -1);
        CHECK.due("25th strike", x.strike(0), -1);
        CHECK.due("seen", x.count(10), 24);
    }

    private static void striking() {
        BidLines x = Check.of(THREE);
        x.see(2, 50, true);
        CHECK.due("60 at least", x.bounds(1), 1016);
        x.see(4, 60, false);
        CHECK.due("none", x.bounds(1), 0);
        CHECK.due("-1", x.strike(-1), -1);
        CHECK.due("itself", x.strike(2), -1);
        CHECK.due("strike of 1", x.strike(1), 2);
        CHECK.due("it is struck", x.bounds(1), 1016);
        CHECK.due("strike of the strike", x.strike(2), 3);
        CHECK.due("it counts again", x.bounds(1), 0);
        CHECK.due("strike of that", x.strike(3), 4);
        CHECK.due("it is struck again", x.bounds(1), 1016);
        CHECK.due("strike of 0", x.strike(0), 5);
        CHECK.due("all struck", x.bounds(1), 1023);
        CHECK.due("the second strike of 1", x.strike(1), 6);
        CHECK.due("strike of the first one of them", x.strike(2), 7);
        CHECK.due("the second one stands", x.bounds(1), 1023);
    }

    private static void knowing() {
        BidLines x = Check.of(THREE);
        CHECK.due("known(0)", x.known(0), true);
        CHECK.due("known(1)", x.known(1), false);
        CHECK.due("known(-2)", x.known(-2), false);
        x.see(2, 50, true);
        x.see(4, 60, false);
        x.strike(0);
        CHECK.due("by none still", x.count(11), 0);
        CHECK.due("any", x.bounds(1), 1023);
        CHECK.due("known(1)", x.known(1), true);
        CHECK.due("by 1", x.count(11), 1);
        CHECK.due("by the first one", x.bounds(1), 1016);
        CHECK.due("known(2)", x.known(2), true);
        CHECK.due("a strike that isn't known", x.bounds(1), 0);
        CHECK.due("known(3)", x.known(3), true);
        CHECK.due("less than 60 alone", x.bounds(1), 7);
        x.known(1);
        CHECK.due("not struck any more", x.bounds(1), 1016);
        x.known(3);
        CHECK.due("known(4)", x.known(4), false);
        CHECK.due("by 3 still", x.count(11), 3);
        x.strike(1);
        CHECK.due("one to come isn't known", x.bounds(1), 7);
        CHECK.due("known(-1)", x.known(-1), true);
        CHECK.due("by all", x.count(11), 4);
        CHECK.due("any", x.bounds(1), 1023);
        x.see(1, 31, true);
        CHECK.due("also those to come", x.count(11), 5);
        CHECK.due("none", x.bounds(1), 0);
    }

    private static void bounds() {
        BidLines x = Check.of(THREE);
        CHECK.due("no such", x.bounds(3), -1);
        CHECK.due("no such", x.bounds(-1), -1);
        CHECK.due("nothing seen", x.bounds(0), 1023);
        x.see(1, 30, true);
        CHECK.due("a may go to 30: 40 and more", x.bounds(0), 1020);
        CHECK.due("b doesn't matter", x.bounds(1), 1023);
        x.see(1, 30, false);
        CHECK.due("both can't be", x.bounds(0), 0);
        x = Check.of("house a 0 0 20 20 0;house b 0 0 20 20 0;calls 1;law death 0;");
        x.see(1, 20, false);
        CHECK.due("0 alone", x.bounds(0), 1);
        for (int i = 0; i < 10; i++) {
            for (int step = 20 * i - 1; step <= 20 * i + 1; step++) {
                if (step >= 1 && step <= 99) {
                    x = Check.of("house a 0 0 " + step + " 20 0;law death 0;");
                    x.see(1, 1, true);
                    CHECK.due("so many may go to " + step, x.bounds(0), 1023 >> (step + 19) / 20 << (step + 19) / 20);
                }
            }
        }
        x = Check.of("house a 0 0 20 20 0;house b 999 0 20 20 0;calls 1;law death 0;");
        x.see(99, 180, true);
        CHECK.due("with 160 b has it at 160, with 180 at 200", x.bounds(0), 512);
        x.see(99, 200, false);
        CHECK.due("200 isn't less", x.bounds(0), 0);
    }

    private static void nothingByCall() {
        BidLines x = Check.of(THREE);
        x.see(2, 50, true);
        x.go(5);
        x.nod(0);
        x.will(0, 0);
        x.marry(0, 2);
        CHECK.due("from the text on", x.bounds(1), 1016);
        x.keep();
        x.see(1, 1, false);
        x.known(1);
        x.back();
        CHECK.due("what was seen stays", x.count(10), 2);
        CHECK.due("from the text on", x.bounds(1), 1016);
    }
}
