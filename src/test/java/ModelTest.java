import java.lang.reflect.InvocationTargetException;
import java.lang.reflect.Method;
import java.util.ArrayList;
import java.util.Comparator;
import java.util.List;
import java.util.Random;

/** Runs of calls by chance (always the same ones), each answer beside that of Oracle. */
public final class ModelTest {
    private static final int RUNS = Integer.getInteger("runs", 400);
    private static final int CALLS = 160;
    private static int answers = 0;
    private static final java.util.Map<String, java.util.Set<Object>> MET = new java.util.TreeMap<>();

    private final Random random;
    private final BidLines x = new BidLines();
    private final Oracle y = new Oracle();
    private final List<String> log = new ArrayList<>();

    private ModelTest(long seed) {
        random = new Random(seed);
    }

    public static void main(String[] args) throws Exception {
        long from = Long.getLong("from", 0);
        for (long seed = from; seed < from + RUNS; seed++) {
            new ModelTest(seed).run();
        }
        if (Boolean.getBoolean("met")) {
            MET.forEach((name, values) -> System.out.println(name + " " + values.size()));
        }
        System.out.println("ModelTest: " + answers + " answers, 0 not as due");
    }

    private void run() throws Exception {
        List<Method> calls = new ArrayList<>(List.of(BidLines.class.getDeclaredMethods()));
        calls.removeIf(m -> !java.lang.reflect.Modifier.isPublic(m.getModifiers()) || m.getName().equals("feed")
                || m.getName().equals("text"));
        calls.sort(Comparator.comparing(Method::getName));
        tell(goodText());
        for (int i = 0; i < CALLS; i++) {
            int dice = random.nextInt(100);
            if (dice < 3) {
                tell(random.nextInt(3) == 0 ? goodText() : spoilt(goodText()));
            } else {
                Method m = calls.get(random.nextInt(calls.size()));
                ask(m.getName(), m.getParameterTypes(), argumentsOf(m));
            }
        }
    }

    private Object[] argumentsOf(Method m) {
        Class<?>[] types = m.getParameterTypes();
        Object[] a = new Object[types.length];
        for (int i = 0; i < a.length; i++) {
            a[i] = types[i] == boolean.class ? (Object) random.nextBoolean() : (Object) number();
        }
        boolean odd = random.nextInt(12) == 0;
        switch (m.getName()) {
            case "go" -> a[0] = odd ? a[0] : random.nextInt(8);
            case "named" -> a[1] = odd ? a[1] : Check.letters("" + (char) ('a' + random.nextInt(8)));
            case "will" -> a[1] = odd ? a[1] : random.nextInt(random.nextBoolean() ? 300 : 10001);
            case "chance" -> a[0] = odd ? a[0] : random.nextInt();
            case "see" -> {
                a[0] = odd ? a[0] : random.nextInt(12);
                a[1] = odd ? a[1] : random.nextInt(120);
            }
            case "stays" -> {
                a[3] = odd ? a[3] : random.nextInt(600) - 100;
                a[4] = odd ? a[4] : random.nextInt(600) - 100;
            }
            case "law", "house", "count", "part" -> a[a.length - 1] = odd ? a[a.length - 1] : random.nextInt(13);
            case "ahead", "left", "sameIn", "hush" -> {
                int n = m.getName().equals("hush") ? 1 : 0;
                a[n] = odd ? a[n] : random.nextInt(50);
            }
            case "tried" -> {
                a[1] = (int) a[0] == 2 || odd ? a[1] : 0;
                a[2] = odd ? a[2] : random.nextInt(50);
            }
            default -> { }
        }
        return a;
    }

    private int number() {
        int dice = random.nextInt(40);
        int[] edges = {-2, -1, 99, 100, 40, 41, 120, 999, 1000, 9999, 10000, Integer.MAX_VALUE, Integer.MIN_VALUE};
        return dice == 0 ? edges[random.nextInt(edges.length)] : dice < 4 ? random.nextInt(24) : random.nextInt(5);
    }

    private void ask(String name, Class<?>[] types, Object[] a) throws Exception {
        Object got = answer(x, BidLines.class, name, types, a);
        Object due = answer(y, Oracle.class, name, types, a);
        log.add(name + java.util.Arrays.toString(a) + " -> " + due);
        answers++;
        MET.computeIfAbsent(name, k -> new java.util.HashSet<>()).add(due);
        if (!got.equals(due)) {
            log.forEach(System.out::println);
            System.out.println("the last one answered " + got);
            System.exit(1);
        }
    }

    private static Object answer(Object o, Class<?> c, String name, Class<?>[] types, Object[] a) throws Exception {
        try {
            Method m = c.getDeclaredMethod(name, types);
            m.setAccessible(true);
            return m.invoke(o, a);
        } catch (InvocationTargetException e) {
            return e.getCause().getClass().getName();
        }
    }

    private void tell(String text) throws Exception {
        log.add(text);
        byte[] bytes = java.util.Arrays.copyOf(text.getBytes(java.nio.charset.StandardCharsets.ISO_8859_1),
                (text.length() + 19) / 20 * 20);
        java.nio.ByteBuffer b = java.nio.ByteBuffer.wrap(bytes);
        Class<?>[] five = {int.class, int.class, int.class, int.class, int.class};
        while (b.hasRemaining()) {
            ask("feed", five, new Object[] {b.getInt(), b.getInt(), b.getInt(), b.getInt(), b.getInt()});
        }
        ask("text", new Class<?>[] {int.class}, new Object[] {text.length()});
        ask("fault", new Class<?>[] {int.class}, new Object[] {0});
        ask("fault", new Class<?>[] {int.class}, new Object[] {1});
    }

    // ---- texts

    private String goodText() {
        List<String> lines = new ArrayList<>();
        int houses = random.nextInt(12) == 0 ? random.nextInt(2) : 2 + random.nextInt(5);
        for (int i = 0; i < houses; i++) {
            int bound = random.nextInt(6) == 0 ? random.nextInt(1000) : random.nextInt(250);
            int age = random.nextBoolean() ? random.nextInt(100) : 20 + random.nextInt(40);
            lines.add("house " + (char) ('a' + i) + " " + bound + " " + random.nextInt(600) + " "
                    + (1 + random.nextInt(25)) + " " + age + " " + random.nextInt(random.nextBoolean() ? 3 : 10));
        }
        int parts = random.nextInt(7);
        for (int i = 0; i < parts; i++) {
            lines.add("part " + (char) ('b' + i) + " " + (1 + random.nextInt(random.nextBoolean() ? 99 : 9)) + " "
                    + random.nextInt(random.nextBoolean() ? 99 : 5));
        }
        settingsInto(lines);
        java.util.Collections.shuffle(lines, random);
        StringBuilder text = new StringBuilder();
        for (String line : lines) {
            text.append(line).append(random.nextBoolean() ? ";" : " ;\n");
        }
        return text.length() > 700 ? goodText() : text.toString();
    }

    private void settingsInto(List<String> lines) {
        if (random.nextBoolean()) {
            lines.add("calls " + (1 + random.nextInt(random.nextBoolean() ? 4 : 20)));
        }
        if (random.nextBoolean()) {
            lines.add("open " + random.nextInt(random.nextBoolean() ? 60 : 300));
        }
        if (random.nextBoolean()) {
            lines.add("seed " + random.nextInt(100000));
        }
        if (random.nextBoolean()) {
            lines.add("law death " + formula(3, false));
        }
        if (random.nextBoolean()) {
            lines.add("law will " + formula(3, true));
        }
        if (random.nextInt(3) > 0) {
            lines.add("law raise " + formula(3, false));
        }
    }

    /** Signs of one rank or of several, with '(' where the grammar wants them, and sometimes where it doesn't. */
    private String formula(int depth, boolean large) {
        if (depth == 0 || random.nextInt(6) == 0) {
            return leaf(large);
        }
        int rank = large ? 3 + random.nextInt(2) : random.nextInt(5);
        String[][] signs = {{"or"}, {"and"}, {"<", "<=", "=", "<>", ">=", ">"}, {"+", "-"}, {"*", "/"}};
        String sign = signs[rank][random.nextInt(signs[rank].length)];
        return side(depth, rank) + (random.nextInt(4) == 0 ? sign.matches("[a-z]+") ? " " + sign + " " : sign
                : " " + sign + " ") + side(depth, rank + 1);
    }

    private String leaf(boolean large) {
        String[] names = {"bid", "bound", "worth", "age", "heirs", "called", "year", "age", "bound"};
        int dice = random.nextInt(12);
        return dice < 9 ? names[dice] : "" + random.nextInt(dice == 11 ? 10000 : large ? 200 : 60);
    }

    private String side(int depth, int rank) {
        if (rank < 2 && random.nextInt(5) == 0) {
            return "not " + side(depth, 2);
        }
        String e = formula(depth - 1, false);
        boolean bare = e.matches("[a-z0-9]+") || random.nextInt(40) == 0
                || rank < 2 && !e.contains("or") && !e.contains("and");
        return bare ? e : "(" + e + ")";
    }

    private String spoilt(String text) {
        String signs = "abhnorty 019;()<>=+-*/\n!A\u00e9";
        String[] words = {" not ", " and ", " house ", "part", " 10000 ", "((((((((", "law death ", "calls 3;",
            "open 1;", "verylong", " bid", "1 + 1 + 1 + 1 + 1 + 1 + 1 + 1 + 1 + 1 + 1 + 1 + 1 + 1 + 1 + 1 + "};
        StringBuilder s = new StringBuilder(text);
        for (int times = 1 + random.nextInt(2); times > 0 && s.length() > 0; times--) {
            int at = random.nextInt(s.length());
            switch (random.nextInt(5)) {
                case 0 -> s.deleteCharAt(at);
                case 1 -> s.setCharAt(at, signs.charAt(random.nextInt(signs.length())));
                case 2 -> s.insert(at, signs.charAt(random.nextInt(signs.length())));
                case 3 -> s.insert(at, words[random.nextInt(words.length)]);
                default -> s.setLength(at);
            }
        }
        return s.length() > 700 ? s.substring(0, 700) : s.toString();
    }
}
