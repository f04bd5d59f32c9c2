/** Counts answers that are not as due; makes objects of BidLines from texts. */
final class Check {
    private int wrong = 0;
    private int asked = 0;

    void due(String what, long got, long want) {
        asked++;
        if (got != want) {
            wrong++;
            System.out.println(what + " answered " + got + ", due is " + want);
        }
    }

    void due(String what, boolean got, boolean want) {
        due(what, got ? 1 : 0, want ? 1 : 0);
    }

    /** 1: IndexOutOfBoundsException, 2: NoSuchElementException, 0: none. */
    void dueThrow(BidLines x, int house, int what, int want) {
        int kind = 0;
        try {
            x.house(house, what);
        } catch (IndexOutOfBoundsException e) {
            kind = 1;
        } catch (java.util.NoSuchElementException e) {
            kind = 2;
        }
        due("house(" + house + ", " + what + ") throws", kind, want);
    }

    void finish(String name) {
        System.out.println(name + ": " + asked + " answers, " + wrong + " not as due");
        if (wrong != 0) {
            System.exit(1);
        }
    }

    /** Feeds a text, blanks behind it; how many bytes it has. */
    static int put(BidLines x, String text) {
        byte[] bytes = new byte[(text.length() + 19) / 20 * 20];
        java.util.Arrays.fill(bytes, (byte) 32);
        for (int i = 0; i < text.length(); i++) {
            bytes[i] = (byte) text.charAt(i);
        }
        int[] n = new int[5];
        for (int i = 0; i < bytes.length; i += 20) {
            for (int k = 0; k < 5; k++) {
                n[k] = 0;
                for (int b = 0; b < 4; b++) {
                    n[k] = n[k] << 8 | bytes[i + 4 * k + b] & 255;
                }
            }
            x.feed(n[0], n[1], n[2], n[3], n[4]);
        }
        return text.length();
    }

    static int tell(BidLines x, String text) {
        return x.text(put(x, text));
    }

    static BidLines of(String text) {
        BidLines x = new BidLines();
        if (tell(x, text) < 0) {
            throw new IllegalStateException("fault " + x.fault(0) + " at " + x.fault(1) + " of " + text);
        }
        return x;
    }

    static int letters(String name) {
        int packed = 0;
        for (int i = 0; i < 6; i++) {
            packed = packed << 5 | (i < name.length() ? name.charAt(i) - 'a' + 1 : 0);
        }
        return packed;
    }
}
