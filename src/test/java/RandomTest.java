import java.lang.reflect.Method;
import java.util.ArrayList;
import java.util.Arrays;
import java.util.List;
import java.util.Random;

/** All promises: long runs of calls, with the same seeds each time, answered by the program and by the Model. */
public final class RandomTest {
    private static final int FROM = Integer.getInteger("from", 0);
    private static final int RUNS = Integer.getInteger("runs", 300);
    private static final int CALLS = 512;
    private static final String[] WORDS = {
        "candle", "star", "altar", "rush", "paschal", "triple", "vat", "tallow", "wax", "warm", "holds",
        "fire", "cold", "dip", "in", "wood", "draught", ";", "candles", "x", "?", "0", "1", "3", "9", "99", "100"};
    // Dear for the Model: called less often.
    private static final List<String> DEAR = List.of("fewest", "ith", "ways", "most", "takesIn", "when", "fires", "read");

    private final Random random;
    private final FortyDips program = new FortyDips();
    private final Model model = new Model();
    private final List<Method> methods;
    private final List<String> run = new ArrayList<>();
    private int calls = 0;
    private int candles = 0;

    private RandomTest(long seed, List<Method> methods) {
        random = new Random(seed);
        this.methods = methods;
    }

    public static void main(String[] args) throws Exception {
        List<Method> methods = new ArrayList<>();
        for (Method m : FortyDips.class.getDeclaredMethods()) {
            if (java.lang.reflect.Modifier.isPublic(m.getModifiers())) {
                methods.add(m);
            }
        }
        methods.sort((a, b) -> a.getName().compareTo(b.getName()));
        for (int seed = FROM; seed < FROM + RUNS; seed++) {
            if (!new RandomTest(seed, methods).agrees()) {
                System.exit(1);
            }
        }
        System.out.println("RandomTest: " + RUNS + " runs of " + CALLS + " calls, all as the model answers");
    }

    private boolean agrees() throws Exception {
        while (calls < CALLS - 60) {
            boolean same;
            int turn = random.nextInt(30);
            if (turn == 0) {
                same = tells(text());
            } else if (turn == 1) {
                same = dipsMany();
            } else if (turn == 2) {
                same = readsARow();
            } else {
                same = call();
            }
            if (!same) {
                return false;
            }
        }
        return seesAll();
    }

    private boolean call() throws Exception {
        Method m = methods.get(random.nextInt(methods.size()));
        if (DEAR.contains(m.getName()) && random.nextInt(4) != 0) {
            return true;
        }
        if (m.getName().equals("hours") && random.nextInt(2) == 0) {
            return true;
        }
        long[] a = new long[m.getParameterCount()];
        boolean wrong = random.nextInt(12) == 0;
        int spoilt = a.length == 0 ? -1 : random.nextInt(a.length);
        for (int i = 0; i < a.length; i++) {
            a[i] = wrong && i == spoilt ? odd() : good(m.getName(), i, a);
        }
        return ask(m.getName(), a);
    }

    private long odd() {
        long[] odd = {-1, -2, 4, 5, 6, 7, 10, 40, 41, 99, 100, 101, 200, 201, 9999, 10000, 99999, 100000,
            Integer.MAX_VALUE, Integer.MIN_VALUE};
        return odd[random.nextInt(odd.length)];
    }

    private long upTo(int greatest) {
        int edge = random.nextInt(10);
        return edge == 0 ? 0 : edge == 1 ? greatest : random.nextInt(greatest + 1);
    }

    private long aCandle() {
        return candles == 0 ? random.nextInt(2) : random.nextInt(candles);
    }

    private long good(String name, int i, long[] a) {
        switch (name + i) {
            case "vat2":
                return a[1] == 1 ? upTo(99) : a[1] == 2 ? (random.nextInt(3) == 0 ? upTo(40) : upTo(99999)) : upTo(1);
            case "vatOf1":
            case "vat1":
            case "count0":
                return upTo(3);
            case "let0":
                return upTo(1);
            case "let1":
                return a[0] == 1 ? upTo(9) : random.nextInt(2) == 0 ? upTo(50) : upTo(9999);
            case "candle0":
            case "turn1":
            case "as1":
            case "read1":
                return upTo(5);
            case "of1":
            case "now0":
                return upTo(4);
            case "layer1":
                return upTo(6);
            case "burn1":
                return random.nextInt(3) == 0 ? 1 + upTo(9998) : 1 + upTo(60);
            case "hours0":
                return random.nextInt(3) == 0 ? 1 + upTo(199) : 1 + upTo(4);
            case "warm1":
                return random.nextInt(2) == 0 ? upTo(200) : upTo(9);
            case "when1":
            case "fires0":
                return upTo(99);
            case "fires1":
                return random.nextInt(2) == 0 ? 1 + upTo(99) : 1 + upTo(8);
            case "takesIn2":
                return random.nextInt(2) == 0 ? 1 + upTo(98) : 1 + upTo(30);
            case "burns2":
            case "kind2":
                return random.nextInt(2) == 0 ? upTo(40) : upTo(6);
            case "fewest1":
            case "ith1":
            case "ways1":
                return aTime();
            case "ith2":
                return upTo(5);
            case "ways2":
            case "most1":
                return upTo(random.nextInt(4) == 0 ? 6 : 4);
            case "enough0":
                return random.nextInt(3) == 0 ? upTo(9999) : upTo(300);
            case "feed0":
                return random.nextInt();
            case "feed1":
                return 1 + upTo(3);
            case "sheet1":
                return new int[] {0, 8, 8, 16, 16, 64, 64}[random.nextInt(7)];
            case "sheet2":
                return random.nextInt(2) == 0 ? upTo(40) : upTo(7);
            case "write1":
                return upTo(6);
            case "write2":
                return random.nextInt(3) == 0 ? random.nextLong() : random.nextInt(16) - 6;
            case "copy1":
            case "copy3":
            case "copy4":
                return upTo(4);
            case "status0":
                return upTo(7) - 1;
            case "copy2":
            case "melt1":
            case "dip1":
            case "takes1":
            case "takesIn1":
            case "burns1":
            case "kind1":
                return upTo(3);
            case "lays1":
            case "show1":
                return aCandle();
            default:
                return i == 0 && !List.of("vatOf", "vat", "warm", "when", "sheet", "write", "copy", "lays", "show",
                        "read").contains(name) ? aCandle() : upTo(3);
        }
    }

    /** Mostly about as long as a candle burns behind few dips. */
    private long aTime() {
        if (candles == 0 || random.nextInt(6) == 0) {
            return upTo(9999);
        }
        int c = random.nextInt(candles);
        return Math.max(0, Math.min(9999, program.burns(c, random.nextInt(4), random.nextInt(5))));
    }

    private String text() {
        StringBuilder text = new StringBuilder();
        int items = 1 + random.nextInt(5);
        for (int i = 0; i < items; i++) {
            text.append(i == 0 ? "" : random.nextBoolean() ? ";" : " ; ").append(item());
        }
        if (random.nextInt(3) == 0) {
            String odd = WORDS[random.nextInt(WORDS.length)];
            int at = random.nextInt(text.length() + 1);
            text.insert(at, random.nextBoolean() ? " " + odd + " " : odd);
        }
        if (random.nextInt(8) == 0) {
            text.setLength(random.nextInt(text.length()));
        }
        if (random.nextInt(8) == 0 && text.length() > 0) {
            text.setCharAt(random.nextInt(text.length()), (char) random.nextInt(256));
        }
        return text.toString();
    }

    private String item() {
        switch (random.nextInt(5)) {
            case 0:
                return random.nextInt(3) == 0 ? WORDS[random.nextInt(6)] : "wood " + upTo(60);
            case 1:
                return "wood" + (random.nextBoolean() ? " " : "") + upTo(10000);
            case 2:
                return "draught " + upTo(10);
            case 3:
                return "dip " + (random.nextInt(8) == 0 ? upTo(10) : aCandle()) + " in " + upTo(3);
            default:
                return "vat " + upTo(3) + part(" wax", " tallow") + part(" warm " + upTo(99), " warm 0" + upTo(100))
                        + part(" holds " + upTo(50), " holds " + upTo(100000)) + part(" fire", " cold");
        }
    }

    private String part(String one, String other) {
        int turn = random.nextInt(3);
        return turn == 0 ? "" : turn == 1 ? one : other;
    }

    private boolean tells(String text) throws Exception {
        boolean same = random.nextInt(4) == 0 || ask("wipe");
        for (int i = 0; i < text.length() && same; i += 4) {
            int n = Math.min(4, text.length() - i);
            int bytes = 0;
            for (int k = 0; k < n; k++) {
                bytes = bytes << 8 | text.charAt(i + k);
            }
            same = ask("feed", bytes, n);
        }
        return same && ask("count", 2) && ask("text") && ask("count", 2) && ask("now", 4) && ask("now", 3);
    }

    private boolean dipsMany() throws Exception {
        if (candles == 0) {
            return ask("candle", random.nextInt(6));
        }
        int s = random.nextInt(4);
        boolean same = ask("sheet", s, 8, 5 + random.nextInt(36));
        for (int i = 0; i < 4 && same; i++) {
            same = ask("write", s, random.nextInt(5), random.nextInt(4));
        }
        long c = aCandle();
        return same && ask("lays", s, c) && ask("of", c, 1) && ask("of", c, 4);
    }

    /** A new candle dipped a few times and shown; then the image is back and its row is read. */
    private boolean readsARow() throws Exception {
        if (candles == 10) {
            return true;
        }
        int n = random.nextInt(7);
        int kind = random.nextInt(6);
        int s = random.nextInt(4);
        int c = candles;
        boolean same = ask("image") && ask("candle", kind) && ask("sheet", s, 16, n);
        for (int i = 0; i < n && same; i++) {
            same = ask("dip", c, random.nextInt(4));
        }
        return same && ask("show", s, c) && ask("undo") && ask("read", s, kind);
    }

    private boolean seesAll() throws Exception {
        boolean same = true;
        for (int v = 0; v < 4 && same; v++) {
            same = ask("vatOf", v, 0) && ask("vatOf", v, 1) && ask("vatOf", v, 2) && ask("vatOf", v, 3);
        }
        for (int which = -1; which < 7 && same; which++) {
            same = ask("status", which);
        }
        for (int c = 0; c < candles && same; c++) {
            same = ask("of", c, 0) && ask("of", c, 1) && ask("of", c, 4);
        }
        return same;
    }

    private boolean ask(String name, long... a) throws Exception {
        calls++;
        long want = model.ask(name, a);
        long got = answered(name, a);
        run.add(name + Arrays.toString(a) + " = " + got);
        candles = program.count(0);
        if (got == want) {
            return true;
        }
        for (String call : run) {
            System.out.println(call);
        }
        System.out.println("due is " + want);
        return false;
    }

    private long answered(String name, long[] a) throws Exception {
        for (Method m : methods) {
            if (m.getName().equals(name)) {
                Object[] given = new Object[a.length];
                for (int i = 0; i < a.length; i++) {
                    if (m.getParameterTypes()[i] == long.class) {
                        given[i] = a[i];
                    } else {
                        given[i] = (int) a[i];
                    }
                }
                return ((Number) m.invoke(program, given)).longValue();
            }
        }
        throw new IllegalStateException(name);
    }
}
