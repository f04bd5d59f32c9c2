/** Counts answers that are not as due; makes objects of BidLines from texts. */
final class Check {
    static final int LEAST = Integer.MIN_VALUE;
    static final int GREATEST = Integer.MAX_VALUE;
    /** Numbers of no HOUSE, where two are told; those beyond 31 would come round where they are bits. */
    static final int[] NO_HOUSE = {-1, 2, 3, 5, 6, 7, 31, 32, 33, 64, -31, -32, LEAST, GREATEST};
    /** a bids 10, b 15, a 25, then none may; FALLEN behind YEAR 5. */
    static final String DUEL = "house a 30 0 10 20 0;house b 25 0 5 20 0;law death 0;";

    private int wrong = 0;
    private int asked = 0;
    /** The test that runs, told ahead of its first wrong answer; null: it is told already. */
    private String running = null;

    void begin(String test) {
        running = test;
    }

    int asked() {
        return asked;
    }

    void fail(String why) {
        wrong++;
        if (running != null) {
            System.out.println(running);
            running = null;
        }
        System.out.println("  " + why);
    }

    void due(String what, long got, long want) {
        asked++;
        if (got != want) {
            fail(what + " answered " + got + ", due is " + want);
        }
    }

    void due(String what, boolean got, boolean want) {
        due(what, got ? 1 : 0, want ? 1 : 0);
    }

    /** 1: IndexOutOfBoundsException, 2: NoSuchElementException, 0: none. */
    void dueThrow(BidLines x, int house, int what, int want) {
        int kind = 0;
        try {
            x.house(house, what);
        } catch (IndexOutOfBoundsException e) {
            kind = 1;
        } catch (java.util.NoSuchElementException e) {
            kind = 2;
        }
        due("house(" + house + ", " + what + ") throws", kind, want);
    }

    /** The FAULT of a text and its place; kind 0, place -1: it has none. */
    void dueFault(String text, int kind, int place) {
        BidLines x = new BidLines();
        due("text '" + text + "'", tell(x, text) < 0, kind != 0);
        due("fault(0) of '" + text + "'", x.fault(0), kind);
        due("fault(1) of '" + text + "'", x.fault(1), place);
    }

    void dueGood(String text, int lines) {
        BidLines x = new BidLines();
        due("text '" + text + "'", tell(x, text), lines);
        due("fault(0) of '" + text + "'", x.fault(0), 0);
        due("fault(1) of '" + text + "'", x.fault(1), -1);
    }

    /** house(house, 0), house(house, 1) and so on. */
    void dueHouse(BidLines x, int house, int... want) {
        for (int what = 0; what < want.length; what++) {
            due("house(" + house + ", " + what + ")", x.house(house, what), want[what]);
        }
    }

    /** count(0), count(1) and so on. */
    void dueCounts(BidLines x, int... want) {
        for (int what = 0; what < want.length; what++) {
            due("count(" + what + ")", x.count(what), want[what]);
        }
    }

    /** All that count(), house() and part() tell. */
    static String picture(BidLines x) {
        StringBuilder all = new StringBuilder();
        for (int what = 0; what <= 12; what++) {
            all.append(x.count(what)).append(' ');
        }
        for (int house = 0; house < x.count(0); house++) {
            for (int what = 0; what <= 7; what++) {
                all.append(x.house(house, what)).append(' ');
            }
        }
        for (int part = 0; part < x.count(1); part++) {
            for (int what = 0; what <= 2; what++) {
                all.append(x.part(part, what)).append(' ');
            }
        }
        return all.toString();
    }

    void dueSame(String what, String got, String want) {
        asked++;
        if (!got.equals(want)) {
            fail(what + " is " + got + ", due is " + want);
        }
    }

    /** What E tells of a house with BOUND 12, WORTH 34, STEP 5, AGE 67, HEIRS 8 at a BID of 9. */
    void dueValue(String e, long want) {
        due(e, of("house a 12 34 5 67 8;open 9;law will " + e + ";").law(1, 0), want);
    }

    void finish(String name) {
        System.out.println(name + ": " + asked + " answers, " + wrong + " not as due");
        if (wrong != 0) {
            System.exit(1);
        }
    }

    /** Feeds a text, blanks behind it; how many bytes it has. */
    static int put(BidLines x, String text) {
        byte[] bytes = new byte[(text.length() + 19) / 20 * 20];
        java.util.Arrays.fill(bytes, (byte) 32);
        for (int i = 0; i < text.length(); i++) {
            bytes[i] = (byte) text.charAt(i);
        }
        int[] n = new int[5];
        for (int i = 0; i < bytes.length; i += 20) {
            for (int k = 0; k < 5; k++) {
                n[k] = 0;
                for (int b = 0; b < 4; b++) {
                    n[k] = n[k] << 8 | bytes[i + 4 * k + b] & 255;
                }
            }
            x.feed(n[0], n[1], n[2], n[3], n[4]);
        }
        return text.length();
    }

    static int tell(BidLines x, String text) {
        return x.text(put(x, text));
    }

    static BidLines of(String text) {
        BidLines x = new BidLines();
        if (tell(x, text) < 0) {
            throw new IllegalStateException("fault " + x.fault(0) + " at " + x.fault(1) + " of " + text);
        }
        return x;
    }

    /** The numbers as the document tells them, by another road than the program's. */
    static long nextNumber(long last) {
        return java.math.BigInteger.valueOf(last).multiply(java.math.BigInteger.valueOf(1103515245))
                .add(java.math.BigInteger.valueOf(12345)).mod(java.math.BigInteger.ONE.shiftLeft(31)).longValue();
    }

    /** What a number is modulo 100, of the last one. */
    static int drawn(long last) {
        return (int) (last / 65536 % 100);
    }

    static int letters(String name) {
        int packed = 0;
        for (int i = 0; i < 6; i++) {
            packed = packed << 5 | (i < name.length() ? name.charAt(i) - 'a' + 1 : 0);
        }
        return packed;
    }
}
