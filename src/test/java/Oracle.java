import java.math.BigInteger;
import java.util.ArrayList;
import java.util.HashMap;
import java.util.List;
import java.util.Map;
import java.util.NoSuchElementException;
import java.util.Set;

/** A second BidLines, told from the document in other words: trees, copies and plain steps instead of rows. */
final class Oracle {
    static final Set<String> LANGUAGE = Set.of("house", "part", "calls", "open", "seed", "law", "death", "will",
            "raise", "or", "and", "not", "bid", "bound", "worth", "age", "heirs", "called", "year");
    static final Set<String> NAMES = Set.of("bid", "bound", "worth", "age", "heirs", "called", "year");
    static final BigInteger LIMIT = BigInteger.TEN.pow(12);

    static final class Fault extends RuntimeException {
        final int kind;
        final int place;

        Fault(int kind, int place) {
            this.kind = kind;
            this.place = place;
        }
    }

    static final class Wrong extends RuntimeException {
    }

    static final class House implements Cloneable {
        String name;
        int bound;
        int worth;
        int step;
        int age;
        int heirs;
        boolean in = true;
        int raised;
        int last = -1;

        House copy() {
            try {
                return (House) clone();
            } catch (CloneNotSupportedException e) {
                throw new IllegalStateException(e);
            }
        }
    }

    static final class Part {
        final String name;
        final int lasts;
        int old;
        boolean first = true;

        Part(String name, int lasts, int old) {
            this.name = name;
            this.lasts = lasts;
            this.old = old;
        }

        Part copy() {
            Part p = new Part(name, lasts, old);
            p.first = first;
            return p;
        }
    }

    /** A tree of an E; a leaf has no sides. */
    static final class Node {
        final String sign;
        final Node one;
        final Node other;

        Node(String sign, Node one, Node other) {
            this.sign = sign;
            this.one = one;
            this.other = other;
        }
    }

    static final class State {
        List<House> houses = new ArrayList<>();
        List<Part> parts = new ArrayList<>();
        int year;
        int bid;
        int leads = -1;
        int called;
        int died;
        boolean fallen;
        long last;

        State copy() {
            State s = new State();
            houses.forEach(h -> s.houses.add(h.copy()));
            parts.forEach(p -> s.parts.add(p.copy()));
            s.year = year;
            s.bid = bid;
            s.leads = leads;
            s.called = called;
            s.died = died;
            s.fallen = fallen;
            s.last = last;
            return s;
        }

        int in() {
            int n = 0;
            for (House h : houses) {
                n += h.in ? 1 : 0;
            }
            return n;
        }

        int bitsIn() {
            int bits = 0;
            for (int i = 0; i < houses.size(); i++) {
                bits += houses.get(i).in ? 1 << i : 0;
            }
            return bits;
        }
    }

    /** What a text tells. */
    static final class Told {
        State start = new State();
        int calls = 3;
        int lines;
        int knots;
        Map<String, Node> laws = new HashMap<>();
    }

    /** How a year is to go otherwise. */
    static final class How {
        boolean drawn;
        boolean nobodyDies;
        boolean nobodyEnds;
        int quiet;
        boolean stepOne;
    }

    static final class Token {
        final String s;
        final int place;

        Token(String s, int place) {
            this.s = s;
            this.place = place;
        }
    }

    /** Recursive descent over the tokens. */
    static final class Parser {
        final List<Token> tokens = new ArrayList<>();
        int at = 0;
        int open = 0;
        final Told told = new Told();
        final Set<String> once = new java.util.HashSet<>();

        Parser(String s) {
            int i = 0;
            while (i < s.length()) {
                char c = s.charAt(i);
                int j = i + 1;
                if (c == 10 || c == 32) {
                    i++;
                    continue;
                }
                if (c >= 'a' && c <= 'z') {
                    while (j < s.length() && s.charAt(j) >= 'a' && s.charAt(j) <= 'z') {
                        j++;
                    }
                } else if (c >= '0' && c <= '9') {
                    while (j < s.length() && s.charAt(j) >= '0' && s.charAt(j) <= '9') {
                        j++;
                    }
                } else if (s.startsWith("<=", i) || s.startsWith(">=", i) || s.startsWith("<>", i)) {
                    j = i + 2;
                }
                tokens.add(new Token(s.substring(i, j), i));
                i = j;
            }
            tokens.add(new Token("", s.length()));
        }

        String peek() {
            return tokens.get(at).s;
        }

        Fault fault(int kind) {
            return new Fault(kind, tokens.get(at).place);
        }

        void expect(String s) {
            if (!peek().equals(s)) {
                throw fault(1);
            }
            at++;
        }

        Told parse() {
            while (!peek().isEmpty()) {
                line();
                expect(";");
                told.lines++;
            }
            return told;
        }

        void line() {
            String word = peek();
            switch (word) {
                case "house" -> {
                    if (told.start.houses.size() == 6) {
                        throw fault(2);
                    }
                    at++;
                    House h = new House();
                    h.name = name(told.start.houses.stream().map(x -> x.name).toList());
                    h.bound = number(0, 999);
                    h.worth = number(0, 999);
                    h.step = number(1, 99);
                    h.age = number(0, 99);
                    h.heirs = number(0, 9);
                    told.start.houses.add(h);
                }
                case "part" -> {
                    if (told.start.parts.size() == 6) {
                        throw fault(2);
                    }
                    at++;
                    String name = name(told.start.parts.stream().map(x -> x.name).toList());
                    int lasts = number(1, 99);
                    told.start.parts.add(new Part(name, lasts, number(0, 99)));
                }
                case "calls", "open", "seed" -> {
                    if (!once.add(word)) {
                        throw fault(3);
                    }
                    at++;
                    if (word.equals("calls")) {
                        told.calls = number(1, 20);
                    } else if (word.equals("open")) {
                        told.start.bid = number(0, 999);
                    } else {
                        told.start.last = number(0, 99999);
                    }
                }
                case "law" -> {
                    at++;
                    String law = peek();
                    if (!Set.of("death", "will", "raise").contains(law)) {
                        throw fault(1);
                    }
                    if (told.laws.containsKey(law)) {
                        throw fault(3);
                    }
                    at++;
                    told.laws.put(law, e());
                }
                default -> throw fault(1);
            }
        }

        String name(List<String> others) {
            String s = peek();
            if (!s.matches("[a-z]{1,6}") || LANGUAGE.contains(s)) {
                throw fault(1);
            }
            if (others.contains(s)) {
                throw fault(3);
            }
            at++;
            return s;
        }

        int number(int least, int most) {
            if (!peek().matches("[0-9]+")) {
                throw fault(1);
            }
            BigInteger n = new BigInteger(peek());
            if (n.compareTo(BigInteger.valueOf(least)) < 0 || n.compareTo(BigInteger.valueOf(most)) > 0) {
                throw fault(2);
            }
            at++;
            return n.intValue();
        }

        void knot() {
            if (++told.knots > 64) {
                throw fault(2);
            }
        }

        Node e() {
            Node n = a();
            while (peek().equals("or")) {
                knot();
                at++;
                n = new Node("or", n, a());
            }
            return n;
        }

        Node a() {
            Node n = b();
            while (peek().equals("and")) {
                knot();
                at++;
                n = new Node("and", n, b());
            }
            return n;
        }

        Node b() {
            if (peek().equals("not")) {
                knot();
                at++;
                return new Node("not", b(), null);
            }
            return c();
        }

        Node c() {
            Node n = s();
            if (Set.of("<", "<=", "=", "<>", ">=", ">").contains(peek())) {
                String sign = peek();
                knot();
                at++;
                n = new Node(sign, n, s());
            }
            return n;
        }

        Node s() {
            Node n = t();
            while (peek().equals("+") || peek().equals("-")) {
                String sign = peek();
                knot();
                at++;
                n = new Node(sign, n, t());
            }
            return n;
        }

        Node t() {
            Node n = p();
            while (peek().equals("*") || peek().equals("/")) {
                String sign = peek();
                knot();
                at++;
                n = new Node(sign, n, p());
            }
            return n;
        }

        Node p() {
            String s = peek();
            if (s.equals("(")) {
                if (open == 8) {
                    throw fault(2);
                }
                open++;
                at++;
                Node n = e();
                expect(")");
                open--;
                return n;
            }
            if (NAMES.contains(s)) {
                knot();
                at++;
                return new Node(s, null, null);
            }
            if (s.matches("[0-9]+")) {
                knot();
                return new Node("" + number(0, 9999), null, null);
            }
            throw fault(1);
        }
    }

    // ---- values and years

    private BigInteger value(Node n, State s, House h) {
        if (n.one == null) {
            return BigInteger.valueOf(switch (n.sign) {
                case "bid" -> s.bid;
                case "bound" -> h.bound;
                case "worth" -> h.worth;
                case "age" -> h.age;
                case "heirs" -> h.heirs;
                case "called" -> s.called;
                case "year" -> s.year;
                default -> Integer.parseInt(n.sign);
            });
        }
        BigInteger a = value(n.one, s, h);
        if (n.other == null) {
            return truth(a.signum() == 0);
        }
        BigInteger b = value(n.other, s, h);
        int order = a.compareTo(b);
        BigInteger v = switch (n.sign) {
            case "or" -> truth(a.signum() != 0 || b.signum() != 0);
            case "and" -> truth(a.signum() != 0 && b.signum() != 0);
            case "<" -> truth(order < 0);
            case "<=" -> truth(order <= 0);
            case "=" -> truth(order == 0);
            case "<>" -> truth(order != 0);
            case ">=" -> truth(order >= 0);
            case ">" -> truth(order > 0);
            case "+" -> a.add(b);
            case "-" -> a.subtract(b);
            case "*" -> a.multiply(b);
            default -> {
                if (b.signum() == 0) {
                    throw new Wrong();
                }
                yield a.divide(b);
            }
        };
        if (v.abs().compareTo(LIMIT) > 0) {
            throw new Wrong();
        }
        return v;
    }

    private static BigInteger truth(boolean so) {
        return so ? BigInteger.ONE : BigInteger.ZERO;
    }

    /** Null: no such law, or an ERROR. */
    private Long lawOf(String law, State s, House h) {
        Node n = told.laws.get(law);
        if (n == null) {
            return null;
        }
        try {
            return value(n, s, h).longValueExact();
        } catch (Wrong e) {
            return null;
        }
    }

    private int deathOf(State s, House h) {
        Long e = lawOf("death", s, h);
        if (e == null) {
            return Math.max(0, h.age - 40);
        }
        return e < 0 ? 0 : e > 100 ? 100 : e.intValue();
    }

    private boolean dies(State s, House h, How how) {
        if (how.nobodyDies) {
            return false;
        }
        int e = deathOf(s, h);
        if (!how.drawn) {
            return e >= 50;
        }
        if (e == 0) {
            return false;
        }
        if (e == 100) {
            return true;
        }
        s.last = (s.last * 1103515245L + 12345L) % (1L << 31);
        return s.last / 65536 % 100 < e;
    }

    private int turnOf(State s) {
        int n = s.houses.size();
        for (int i = 0; i < n; i++) {
            int k = (s.year % n + i) % n;
            if (s.houses.get(k).in) {
                return k;
            }
        }
        return -1;
    }

    private boolean raises(State s, int k, int step) {
        House h = s.houses.get(k);
        if (s.fallen || !h.in || s.leads == k || s.bid + step > h.bound) {
            return false;
        }
        s.bid += step;
        s.leads = k;
        s.called = 0;
        h.raised++;
        h.last = s.bid;
        return true;
    }

    /** Who raised, or -1. */
    private int year(State s, How how) {
        int who = -1;
        if (!s.fallen) {
            for (House h : s.houses) {
                if (!h.in) {
                    continue;
                }
                h.age = Math.min(99, h.age + 1);
                if (!dies(s, h, how)) {
                    continue;
                }
                s.died++;
                if (h.heirs == 0 && how.nobodyEnds) {
                    h.heirs = 1;
                }
                if (h.heirs == 0) {
                    h.in = false;
                } else {
                    h.heirs--;
                    Long will = lawOf("will", s, h);
                    if (will != null) {
                        h.bound = will < 0 ? 0 : will > 9999 ? 9999 : will.intValue();
                    }
                    h.age = 20;
                }
            }
            int k = turnOf(s);
            if (k >= 0 && (how.quiet >> k & 1) == 0) {
                Long raise = lawOf("raise", s, s.houses.get(k));
                int step = how.stepOne ? 1 : s.houses.get(k).step;
                if ((raise == null || raise != 0) && raises(s, k, step)) {
                    who = k;
                }
            }
            if (who < 0 && s.leads >= 0 && ++s.called == told.calls) {
                s.fallen = true;
            }
        }
        for (Part p : s.parts) {
            if (++p.old >= p.lasts) {
                p.old = 0;
                p.first = false;
            }
        }
        s.year++;
        return who;
    }

    private State after(State from, int n, How how) {
        State s = from.copy();
        for (int i = 0; i < n; i++) {
            year(s, how);
        }
        return s;
    }

    /** The state in which it has fallen within so many years, its years counted; null: not by then. */
    private State fallen(State from, int n, How how) {
        State s = from.copy();
        for (int i = 0; i < n && !s.fallen; i++) {
            year(s, how);
        }
        return s.fallen ? s : null;
    }

    // ---- the face

    private final StringBuilder tape = new StringBuilder();
    private Told told = new Told();
    private State now = new State();
    private State image = null;
    private final List<State> undo = new ArrayList<>();
    private int fault = 0;
    private int place = -1;
    private final List<int[]> seen = new ArrayList<>();
    private int known = -1;

    public int feed(int a, int b, int c, int d, int e) {
        if (tape.length() > 680) {
            return -1;
        }
        for (int n : new int[] {a, b, c, d, e}) {
            tape.append((char) (n >>> 24)).append((char) (n >>> 16 & 255)).append((char) (n >>> 8 & 255))
                    .append((char) (n & 255));
        }
        return tape.length();
    }

    public int text(int n) {
        if (n < 0 || n > tape.length()) {
            return -2;
        }
        String s = tape.substring(0, n);
        tape.setLength(0);
        try {
            told = new Parser(s).parse();
        } catch (Fault f) {
            fault = f.kind;
            place = f.place;
            return -1;
        }
        fault = 0;
        place = -1;
        now = told.start.copy();
        image = null;
        undo.clear();
        seen.clear();
        known = -1;
        return told.lines;
    }

    public int fault(int what) {
        return what == 0 ? fault : what == 1 ? place : -1;
    }

    public int named(int what, int letters) {
        List<String> names = what == 0 ? now.houses.stream().map(h -> h.name).toList()
                : what == 1 ? now.parts.stream().map(p -> p.name).toList() : List.of();
        for (int i = 0; i < names.size(); i++) {
            if (Check.letters(names.get(i)) == letters) {
                return i;
            }
        }
        return -1;
    }

    private boolean isHouse(int h) {
        return h >= 0 && h < now.houses.size();
    }

    private boolean in(int h) {
        return isHouse(h) && now.houses.get(h).in;
    }

    public int house(int house, int what) {
        if (!isHouse(house)) {
            throw new IndexOutOfBoundsException();
        }
        House h = now.houses.get(house);
        int[] all = {h.bound, h.worth, h.step, h.age, h.heirs, h.in ? 1 : 0, h.raised, h.last};
        if (what < 0 || what > 7) {
            throw new NoSuchElementException();
        }
        return all[what];
    }

    public int part(int part, int what) {
        if (part < 0 || part >= now.parts.size() || what < 0 || what > 2) {
            return -1;
        }
        Part p = now.parts.get(part);
        return new int[] {p.lasts, p.old, p.first ? 1 : 0}[what];
    }

    public long law(int what, int house) {
        if (what < 0 || what > 2 || !isHouse(house)) {
            return Long.MIN_VALUE;
        }
        Long v = lawOf(List.of("death", "will", "raise").get(what), now, now.houses.get(house));
        return v == null ? Long.MIN_VALUE : v;
    }

    private void done(State ahead) {
        undo.add(ahead);
        if (undo.size() > 20) {
            undo.remove(0);
        }
    }

    public int nod(int house) {
        if (!isHouse(house)) {
            return -1;
        }
        State ahead = now.copy();
        if (!raises(now, house, now.houses.get(house).step)) {
            return -2;
        }
        done(ahead);
        return now.bid;
    }

    private static void marry(State s, int one, int other) {
        House a = s.houses.get(one);
        House b = s.houses.get(other);
        a.bound = Math.min(9999, a.bound + b.bound);
        a.heirs = Math.min(9, a.heirs + b.heirs);
        b.in = false;
        s.leads = s.leads == other ? one : s.leads;
    }

    public boolean marry(int one, int other) {
        if (one == other || !in(one) || !in(other)) {
            return false;
        }
        done(now.copy());
        marry(now, one, other);
        return true;
    }

    public boolean will(int house, int bound) {
        if (!in(house) || bound < 0 || bound > 9999 || now.houses.get(house).bound == bound) {
            return false;
        }
        done(now.copy());
        now.houses.get(house).bound = bound;
        return true;
    }

    public int child(int house) {
        if (!in(house) || now.houses.get(house).heirs == 9) {
            return -1;
        }
        done(now.copy());
        return ++now.houses.get(house).heirs;
    }

    public int go(int n) {
        if (n < 0 || n > 99 || now.year + n > 9000) {
            return -1;
        }
        How how = new How();
        how.drawn = true;
        now = after(now, n, how);
        if (n > 0) {
            undo.clear();
        }
        return now.year;
    }

    public int ahead(int n, int what) {
        if (n < 0 || n > 99 || what < 0 || what > 3) {
            return -1;
        }
        State s = after(now, n, new How());
        return new int[] {s.bid, s.leads < 0 ? -2 : s.leads, s.in(), s.died - now.died}[what];
    }

    public int falls(int what) {
        if (what < 0 || what > 2) {
            return -1;
        }
        State s = fallen(now, 999, new How());
        return s == null ? -2 : new int[] {s.year - now.year, s.leads, s.bid}[what];
    }

    private boolean fallsTo(State s, int n, int house) {
        State then = fallen(s, n, new How());
        return then != null && then.leads == house;
    }

    public int letGo(int house) {
        if (!in(house)) {
            return -1;
        }
        for (int d = 0; d <= 300; d++) {
            State s = now.copy();
            s.houses.get(house).bound += d;
            if (fallsTo(s, 120, house)) {
                return d;
            }
        }
        return -2;
    }

    private int sum(int bits) {
        int n = 0;
        for (int i = 0; i < now.houses.size(); i++) {
            n += (bits >> i & 1) == 1 ? now.houses.get(i).bound : 0;
        }
        return n;
    }

    private int leastStep(int bits) {
        int n = 1000;
        for (int i = 0; i < now.houses.size(); i++) {
            n = (bits >> i & 1) == 1 ? Math.min(n, now.houses.get(i).step) : n;
        }
        return n;
    }

    /** All bits, the fewest first, of as many the least first. */
    private static List<Integer> byCount() {
        List<Integer> all = new ArrayList<>();
        for (int i = 0; i < 64; i++) {
            all.add(i);
        }
        all.sort(java.util.Comparator.<Integer>comparingInt(Integer::bitCount).thenComparingInt(i -> i));
        return all;
    }

    public int outbid() {
        for (int bits : byCount()) {
            if (bits == 0 || (bits & now.bitsIn()) != bits) {
                continue;
            }
            boolean good = sum(bits) >= now.bid + leastStep(bits);
            for (int i = 0; i < now.houses.size(); i++) {
                if (now.houses.get(i).in && (bits >> i & 1) == 0) {
                    good &= sum(bits) > now.houses.get(i).bound;
                }
            }
            if (good) {
                return bits;
            }
        }
        return -2;
    }

    public int against(int one, int other, int what) {
        if (one == other || !in(one) || !in(other) || what < 0 || what > 1) {
            return -1;
        }
        int bid = now.bid;
        for (int move = 0;; move++) {
            House h = now.houses.get(move % 2 == 0 ? one : other);
            if (bid + h.step > h.bound || bid + h.step >= h.worth) {
                return what == 1 ? bid : (move + 1) % 2;
            }
            bid += h.step;
        }
    }

    public int still() {
        int bits = 0;
        for (int i = 0; i < now.houses.size(); i++) {
            House h = now.houses.get(i);
            bits |= h.in && h.bound - h.step >= now.bid ? 1 << i : 0;
        }
        return bits;
    }

    public int most() {
        State s = now.copy();
        int n = 0;
        boolean again = true;
        while (again) {
            again = false;
            for (int i = 0; i < s.houses.size(); i++) {
                if (raises(s, i, s.houses.get(i).step)) {
                    n++;
                    again = true;
                }
            }
        }
        return n;
    }

    private static int firsts(State s) {
        return (int) s.parts.stream().filter(p -> p.first).count();
    }

    public int same() {
        return firsts(now);
    }

    public int noneLeft() {
        for (int n = 0; n <= 999; n++) {
            if (firsts(after(now, n, new How())) == 0) {
                return n;
            }
        }
        return -2;
    }

    public long lives(int house, int n, int what) {
        if (!in(house) || n < 0 || n > 6 || what < 0 || what > 1) {
            return -1;
        }
        BigInteger above = BigInteger.ONE;
        BigInteger below = BigInteger.ONE;
        State s = now.copy();
        for (int i = 0; i < n; i++) {
            House h = s.houses.get(house);
            h.age = Math.min(99, h.age + 1);
            above = above.multiply(BigInteger.valueOf(100 - deathOf(s, h)));
            below = below.multiply(BigInteger.valueOf(100));
        }
        BigInteger g = above.gcd(below);
        return (what == 0 ? above : below).divide(g).longValueExact();
    }

    private int has(int... some) {
        int bits = 0;
        int worth = 0;
        for (int i : some) {
            bits |= 1 << i;
            worth = Math.max(worth, now.houses.get(i).worth);
        }
        return sum(bits) >= now.bid + leastStep(bits) ? Math.max(0, worth - now.bid) : 0;
    }

    public int shares(int one, int other) {
        if (one == other || !in(one) || !in(other)) {
            return -1;
        }
        return has(one) + (has(one, other) - has(one) - has(other)) / 2;
    }

    public int turn() {
        int k = turnOf(now);
        return k < 0 ? -2 : k;
    }

    public int stays(int one, int two, int three, int x, int y) {
        if (!in(one) || !in(two) || !in(three) || one == two || one == three || two == three
                || Math.abs((long) x) > 9999 || Math.abs((long) y) > 9999) {
            return -1;
        }
        int z = has(one, two, three) - x - y;
        return x >= has(one) && y >= has(two) && z >= has(three) && x + y >= has(one, two)
                && x + z >= has(one, three) && y + z >= has(two, three) ? 1 : 0;
    }

    public int nextRaise(int what) {
        if (what < 0 || what > 1) {
            return -1;
        }
        State s = now.copy();
        for (int n = 1; n <= 99; n++) {
            int who = year(s, new How());
            if (who >= 0) {
                return what == 0 ? n : who;
            }
        }
        return -2;
    }

    public int rival(int house) {
        if (!isHouse(house)) {
            return -1;
        }
        int best = -2;
        int bound = -1;
        for (int i = 0; i < now.houses.size(); i++) {
            House h = now.houses.get(i);
            if (i != house && h.in && h.bound > bound) {
                best = i;
                bound = h.bound;
            }
        }
        return best;
    }

    public int left(int n) {
        return n < 0 || n > 99 ? -1 : after(now, n, new How()).bitsIn();
    }

    public int when(int house, int n, int what) {
        if (!in(house) || n < 0 || n > 40 || what < 0 || what > 1) {
            return -1;
        }
        int best = -2;
        int bid = Integer.MAX_VALUE;
        for (int k = 0; k <= n; k++) {
            State s = after(now, k, new How());
            if (!raises(s, house, s.houses.get(house).step)) {
                continue;
            }
            State then = fallen(s, 120 - k, new How());
            if (then != null && then.leads == house && then.bid < bid) {
                best = k;
                bid = then.bid;
            }
        }
        return best == -2 ? -2 : what == 0 ? best : bid;
    }

    public int match(int house) {
        if (!in(house)) {
            return -1;
        }
        int best = -2;
        for (int i = now.houses.size() - 1; i >= 0; i--) {
            if (i == house || !in(i)) {
                continue;
            }
            State s = now.copy();
            marry(s, house, i);
            if (fallsTo(s, 120, house)
                    && (best == -2 || now.houses.get(i).bound <= now.houses.get(best).bound)) {
                best = i;
            }
        }
        return best;
    }

    public int atMost() {
        How how = new How();
        how.nobodyDies = true;
        State s = fallen(now, 999, how);
        return s == null ? -2 : s.year - now.year;
    }

    public int sameIn(int n) {
        return n < 0 || n > 999 ? -1 : firsts(after(now, n, new How()));
    }

    public int nextPart(int what) {
        if (what < 0 || what > 1) {
            return -1;
        }
        if (now.parts.isEmpty()) {
            return -2;
        }
        State s = now.copy();
        for (int n = 1;; n++) {
            year(s, new How());
            for (int i = 0; i < s.parts.size(); i++) {
                if (s.parts.get(i).old == 0) {
                    return what == 0 ? i : n;
                }
            }
        }
    }

    public int hush(int house, int n) {
        if (!in(house) || n < 1 || n > 40) {
            return -1;
        }
        for (int bits : byCount()) {
            if ((bits & now.bitsIn()) == bits && (bits >> house & 1) == 0) {
                How how = new How();
                how.quiet = bits;
                if (after(now, n, how).leads == house) {
                    return bits;
                }
            }
        }
        return -2;
    }

    public int see(int years, int bid, boolean atLeast) {
        if (years < 1 || years > 99 || bid < 0 || bid > 9999 || seen.size() == 24) {
            return -1;
        }
        seen.add(new int[] {years, bid, atLeast ? 1 : 0});
        return seen.size() - 1;
    }

    public int strike(int one) {
        if (one < 0 || one >= seen.size() || seen.size() == 24) {
            return -1;
        }
        seen.add(new int[] {one});
        return seen.size() - 1;
    }

    public boolean known(int n) {
        if (n < -1 || n > seen.size()) {
            return false;
        }
        known = n;
        return true;
    }

    private int byHowMany() {
        return known < 0 ? seen.size() : known;
    }

    private boolean struck(int one) {
        for (int i = one + 1; i < byHowMany(); i++) {
            if (seen.get(i).length == 1 && seen.get(i)[0] == one && !struck(i)) {
                return true;
            }
        }
        return false;
    }

    public int bounds(int house) {
        if (!isHouse(house)) {
            return -1;
        }
        int bits = 0;
        for (int b = 0; b < 10; b++) {
            State s = told.start.copy();
            s.houses.get(house).bound = 20 * b;
            boolean good = true;
            for (int i = 0; i < byHowMany(); i++) {
                int[] one = seen.get(i);
                if (one.length == 3 && !struck(i)) {
                    good &= (after(s, one[0], new How()).bid >= one[1]) == (one[2] == 1);
                }
            }
            bits |= good ? 1 << b : 0;
        }
        return bits;
    }

    public int chance(int seed, int n, int house) {
        if (seed < 0 || n < 1 || n > 99 || !isHouse(house)) {
            return -1;
        }
        How how = new How();
        how.drawn = true;
        long last = seed;
        int times = 0;
        for (int i = 0; i < 10; i++) {
            State s = now.copy();
            s.last = last;
            s = after(s, n, how);
            last = s.last;
            times += s.houses.get(house).in ? 1 : 0;
        }
        return times;
    }

    public int tried(int what, int i, int n) {
        if (what < 0 || what > 4 || n < 0 || n > 99 || (what == 2 ? !isHouse(i) : i != 0)) {
            return -1;
        }
        How how = new How();
        how.nobodyDies = what == 0;
        how.nobodyEnds = what == 1;
        how.quiet = what == 2 ? 1 << i : 0;
        how.stepOne = what == 3;
        State s = now.copy();
        if (what == 4) {
            s.houses.forEach(h -> h.bound = 999);
        }
        return after(s, n, how).bid;
    }

    public int undo() {
        if (undo.isEmpty()) {
            return -1;
        }
        now = undo.remove(undo.size() - 1);
        return undo.size();
    }

    public int keep() {
        image = now.copy();
        return now.year;
    }

    public int back() {
        if (image == null) {
            return -1;
        }
        now = image.copy();
        undo.clear();
        return now.year;
    }

    public int count(int what) {
        if (what < 0 || what > 12) {
            return -1;
        }
        return new int[] {now.houses.size(), now.parts.size(), told.knots, now.year, now.bid, now.leads, now.called,
            now.fallen ? 1 : 0, now.in(), now.died, seen.size(), byHowMany(), undo.size()}[what];
    }
}
