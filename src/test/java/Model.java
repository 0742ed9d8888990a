import java.util.ArrayList;
import java.util.Arrays;
import java.util.List;
import java.util.regex.Matcher;
import java.util.regex.Pattern;

/**
 * The document once more, written for plainness alone and apart from the program:
 * every gram is a character, every row of dips is tried whole on a deep copy, texts are split by a pattern.
 */
final class Model {
    static final long BEYOND = -1000000001;
    static final long FULL = -1000000002;
    static final long KIND = -1000000003;
    static final long NONE = -1000000004;
    static final long STATE = -1000000005;
    static final long MISSING = -1000000006;
    static final long SIZE = -1000000007;

    static final class Found extends RuntimeException {
        private static final long serialVersionUID = 1L;
        final long which;

        Found(long which) {
            super(null, null, false, false);
            this.which = which;
        }
    }

    static final class Fault extends RuntimeException {
        private static final long serialVersionUID = 1L;
        final int place;

        Fault(int place) {
            super(null, null, false, false);
            this.place = place;
        }
    }

    /** A candle: each layer is a text of t (tallow) or w (wax), one sign a gram. */
    static final class Stick {
        int kind;
        List<String> layers = new ArrayList<>();

        Stick(int kind) {
            this.kind = kind;
        }

        Stick twin() {
            Stick twin = new Stick(kind);
            twin.layers.addAll(layers);
            return twin;
        }

        int grams() {
            return String.join("", layers).length();
        }

        int wax() {
            return String.join("", layers).replace("t", "").length();
        }

        int takes(int w) {
            return takes(kind, w);
        }

        private int takes(int k, int w) {
            int g;
            switch (k) {
                case 0:
                    return w < 30 ? 9 : w <= 59 ? 6 : w <= 79 ? 4 : -5;
                case 1:
                    return takes(0, w) * 3;
                case 2:
                    g = takes(0, w);
                    return g > 1 ? g - 1 : g;
                case 3:
                    g = takes(0, w);
                    return layers.isEmpty() ? g : g / 2;
                case 4:
                    g = takes(2, w);
                    return g > 0 ? g + 5 : g;
                default:
                    g = takes(1, w);
                    return g > 0 ? g + layers.size() : g;
            }
        }

        int burns() {
            return burns(kind);
        }

        private int burns(int k) {
            switch (k) {
                case 0:
                    return 3 * (grams() - wax()) + 5 * wax();
                case 1:
                    return burns(0) / 3;
                case 2:
                    return burns(0) + burns(0) / 10;
                case 3:
                    return Math.min(60, burns(0));
                case 4:
                    return burns(2) + 30;
                default:
                    return burns(1);
            }
        }

        char lastGram() {
            String last = layers.get(layers.size() - 1);
            return last.charAt(0);
        }

        void loseGram() {
            int at = layers.size() - 1;
            String less = layers.get(at).substring(1);
            if (less.isEmpty()) {
                layers.remove(at);
            } else {
                layers.set(at, less);
            }
        }

        long told(int i) {
            String l = layers.get(i);
            return l.charAt(0) == 'w' ? -l.length() : l.length();
        }
    }

    /** All of section 1 but the tape. Vats are {wax, warmth, holds, fire}. */
    static final class Shop {
        int[][] vats = {{0, 50, 2000, 0}, {0, 50, 2000, 0}, {0, 50, 2000, 0}, {1, 50, 2000, 0}};
        int wood = 50;
        int draught = 2;
        int hour = 0;
        List<Stick> sticks = new ArrayList<>();

        Shop twin() {
            Shop twin = new Shop();
            for (int v = 0; v < 4; v++) {
                twin.vats[v] = vats[v].clone();
            }
            twin.wood = wood;
            twin.draught = draught;
            twin.hour = hour;
            for (Stick s : sticks) {
                twin.sticks.add(s.twin());
            }
            return twin;
        }

        void dip(int candle, int vat) {
            Stick s = sticks.get(candle);
            int[] v = vats[vat];
            if (s.layers.size() == 40) {
                return;
            }
            int takes = s.takes(v[1]);
            if (takes > 0) {
                int g = Math.min(takes, v[2]);
                v[2] -= g;
                if (g > 0) {
                    s.layers.add((v[0] == 1 ? "w" : "t").repeat(g));
                }
            }
            for (int off = takes; off < 0 && !s.layers.isEmpty(); off++) {
                s.loseGram();
                v[2] = Math.min(99999, v[2] + 1);
            }
            v[1] = Math.max(0, v[1] - 2);
        }

        void goHour() {
            for (int[] v : vats) {
                if (v[3] == 1 && wood > 0) {
                    wood--;
                    v[1] = Math.min(99, v[1] + 10);
                } else {
                    v[1] = Math.max(0, v[1] - draught);
                }
            }
            hour++;
        }

        Shop on(int n) {
            Shop later = twin();
            for (int i = 0; i < n; i++) {
                later.goHour();
            }
            return later;
        }

        int behind(int candle, int... row) {
            Shop twin = twin();
            for (int vat : row) {
                twin.dip(candle, vat);
            }
            return twin.sticks.get(candle).burns();
        }
    }

    private Shop shop = new Shop();
    private Shop kept = null;
    private String tape = "";
    private final long[][] sheets = new long[4][];
    private final int[] bits = new int[4];
    private final long[] found = new long[7];

    static void need(boolean holds, long finding) {
        if (!holds) {
            throw new Found(finding);
        }
    }

    static boolean in(long x, long a, long b) {
        return a <= x && x <= b;
    }

    long ask(String call, long[] a) {
        try {
            return answer(call, a);
        } catch (Found f) {
            found[(int) (BEYOND - f.which)]++;
            return f.which;
        }
    }

    private long answer(String call, long[] long_a) {
        int[] a = Arrays.stream(long_a).mapToInt(l -> (int) l).toArray();
        switch (call) {
            case "vatOf":
                need(in(a[0], 0, 3) && in(a[1], 0, 3), BEYOND);
                return shop.vats[a[0]][a[1]];
            case "vat":
                return vat(a[0], a[1], a[2]);
            case "let":
                return let(a[0], a[1]);
            case "candle":
                need(in(a[0], 0, 5), BEYOND);
                need(shop.sticks.size() < 10, FULL);
                shop.sticks.add(new Stick(a[0]));
                return shop.sticks.size() - 1;
            case "hours":
            case "now":
            case "warm":
            case "when":
            case "takesIn":
            case "fires":
            case "enough":
                return hourCalls(call, a);
            case "burns":
            case "fewest":
            case "ith":
            case "ways":
            case "most":
            case "best":
            case "kind":
                return rowCalls(call, a);
            case "feed":
            case "wipe":
            case "text":
                return textCalls(call, a);
            case "sheet":
            case "write":
            case "copy":
            case "lays":
            case "show":
            case "read":
                return sheetCalls(call, a, long_a);
            case "image":
            case "undo":
            case "tear":
            case "count":
            case "status":
                return imageCalls(call, a);
            default:
                return candleCalls(call, a);
        }
    }

    private long vat(int vat, int what, int v) {
        need(in(vat, 0, 3) && in(what, 0, 3), BEYOND);
        need(in(v, 0, new int[] {1, 99, 99999, 1}[what]), BEYOND);
        int was = shop.vats[vat][what];
        shop.vats[vat][what] = v;
        return was;
    }

    private long let(int what, int v) {
        need(in(what, 0, 1) && in(v, 0, what == 0 ? 9999 : 9), BEYOND);
        int was = what == 0 ? shop.wood : shop.draught;
        if (what == 0) {
            shop.wood = v;
        } else {
            shop.draught = v;
        }
        return was;
    }

    private Stick stick(int candle) {
        need(in(candle, 0, shop.sticks.size() - 1), BEYOND);
        return shop.sticks.get(candle);
    }

    private long candleCalls(String call, int[] a) {
        Stick s = stick(a[0]);
        switch (call) {
            case "of":
                need(in(a[1], 0, 4), BEYOND);
                return new int[] {s.kind, s.layers.size(), s.grams(), s.wax(), s.burns()}[a[1]];
            case "layer":
                need(a[1] >= 0, BEYOND);
                need(a[1] < s.layers.size(), NONE);
                return s.told(a[1]);
            case "turn":
                need(in(a[1], 0, 5), BEYOND);
                int was = s.kind;
                s.kind = a[1];
                return was;
            case "as":
                need(in(a[1], 0, 5), BEYOND);
                String under = new String[] {"0", "10", "20", "30", "420", "510"}[s.kind];
                need(under.contains("" + a[1]), KIND);
                return s.burns();
            case "takes":
                need(in(a[1], 0, 3), BEYOND);
                return s.takes(shop.vats[a[1]][1]);
            case "dip":
                need(in(a[1], 0, 3), BEYOND);
                need(s.layers.size() < 40, STATE);
                shop.dip(a[0], a[1]);
                return s.grams();
            case "melt":
                need(in(a[1], 0, 3), BEYOND);
                int g = s.grams();
                shop.vats[a[1]][2] = Math.min(99999, shop.vats[a[1]][2] + g);
                s.layers.clear();
                return g;
            case "burn":
                need(in(a[1], 1, 9999), BEYOND);
                int m = a[1];
                while (!s.layers.isEmpty() && m >= (s.lastGram() == 'w' ? 5 : 3)) {
                    m -= s.lastGram() == 'w' ? 5 : 3;
                    s.loseGram();
                }
                return s.grams();
            default:
                throw new IllegalStateException(call);
        }
    }

    private long hourCalls(String call, int[] a) {
        switch (call) {
            case "hours":
                need(in(a[0], 1, 200), BEYOND);
                need(shop.hour + a[0] <= 9999, STATE);
                int had = shop.wood;
                shop = shop.on(a[0]);
                return had - shop.wood;
            case "now":
                need(in(a[0], 0, 4), BEYOND);
                int holds = 0;
                for (int[] v : shop.vats) {
                    holds += v[2];
                }
                int grams = shop.sticks.stream().mapToInt(Stick::grams).sum();
                return new int[] {shop.hour, shop.wood, shop.draught, holds, grams}[a[0]];
            case "warm":
                need(in(a[0], 0, 3) && in(a[1], 0, 200), BEYOND);
                need(shop.hour + a[1] <= 9999, STATE);
                return shop.on(a[1]).vats[a[0]][1];
            case "when":
                need(in(a[0], 0, 3) && in(a[1], 0, 99), BEYOND);
                need(shop.hour <= 9799, STATE);
                for (int h = 0; h <= 200; h++) {
                    if (shop.on(h).vats[a[0]][1] >= a[1]) {
                        return h;
                    }
                }
                throw new Found(NONE);
            case "takesIn":
                Stick s = stick(a[0]);
                need(in(a[1], 0, 3) && in(a[2], 1, 99), BEYOND);
                need(shop.hour <= 9799, STATE);
                for (int h = 0; h <= 200; h++) {
                    if (s.takes(shop.on(h).vats[a[1]][1]) >= a[2]) {
                        return h;
                    }
                }
                throw new Found(NONE);
            case "fires":
                return fires(a[0], a[1]);
            default:
                need(in(a[0], 0, 9999), BEYOND);
                int set = 0;
                for (int c = 0; c < shop.sticks.size(); c++) {
                    set += shop.sticks.get(c).burns() >= a[0] ? 1 << c : 0;
                }
                return set;
        }
    }

    private long fires(int v, int n) {
        need(in(v, 0, 99) && in(n, 1, 100), BEYOND);
        need(shop.hour + n <= 9999, STATE);
        long best = NONE;
        int left = -1;
        for (int set = 15; set >= 0; set--) {
            Shop lit = shop.twin();
            for (int i = 0; i < 4; i++) {
                lit.vats[i][3] = set >> i & 1;
            }
            lit = lit.on(n);
            boolean all = true;
            for (int[] vat : lit.vats) {
                all &= vat[1] >= v;
            }
            if (all && lit.wood >= left) {
                best = set;
                left = lit.wood;
            }
        }
        need(best >= 0, NONE);
        return best;
    }

    private static int[] row(int number, int n) {
        int[] row = new int[n];
        for (int i = n - 1; i >= 0; i--) {
            row[i] = number % 4;
            number /= 4;
        }
        return row;
    }

    private int[] firstRow(int candle, int v) {
        for (int n = 0; n <= 6; n++) {
            for (int number = 0; number < 1 << (2 * n); number++) {
                if (shop.behind(candle, row(number, n)) >= v) {
                    return row(number, n);
                }
            }
        }
        throw new Found(NONE);
    }

    private int[] same(int vat, int n) {
        int[] row = new int[n];
        Arrays.fill(row, vat);
        return row;
    }

    private long rowCalls(String call, int[] a) {
        Stick s = stick(a[0]);
        switch (call) {
            case "burns":
                need(in(a[1], 0, 3) && in(a[2], 0, 40), BEYOND);
                return shop.behind(a[0], same(a[1], a[2]));
            case "fewest":
                need(in(a[1], 0, 9999), BEYOND);
                return firstRow(a[0], a[1]).length;
            case "ith":
                need(in(a[1], 0, 9999) && in(a[2], 0, 5), BEYOND);
                int[] first = firstRow(a[0], a[1]);
                need(a[2] < first.length, NONE);
                return first[a[2]];
            case "ways":
                need(in(a[1], 0, 9999) && in(a[2], 0, 6), BEYOND);
                int ways = 0;
                for (int number = 0; number < 1 << (2 * a[2]); number++) {
                    ways += shop.behind(a[0], row(number, a[2])) == a[1] ? 1 : 0;
                }
                return ways;
            case "most":
                need(in(a[1], 0, 6), BEYOND);
                int most = 0;
                for (int number = 0; number < 1 << (2 * a[1]); number++) {
                    most = Math.max(most, shop.behind(a[0], row(number, a[1])));
                }
                return most;
            case "best":
                need(s.layers.size() < 40, STATE);
                int best = 3;
                for (int v = 2; v >= 0; v--) {
                    best = shop.behind(a[0], v) >= shop.behind(a[0], best) ? v : best;
                }
                return best;
            default:
                need(in(a[1], 0, 3) && in(a[2], 0, 40), BEYOND);
                int[] burns = new int[6];
                int longest = 0;
                for (int k = 5; k >= 0; k--) {
                    Shop twin = shop.twin();
                    twin.sticks.get(a[0]).kind = k;
                    burns[k] = twin.behind(a[0], same(a[1], a[2]));
                    longest = burns[k] >= burns[longest] || k == 5 ? k : longest;
                }
                return longest;
        }
    }

    private long textCalls(String call, int[] a) {
        int had = tape.length();
        switch (call) {
            case "feed":
                need(in(a[1], 1, 4), BEYOND);
                need(had + a[1] <= 120, FULL);
                StringBuilder more = new StringBuilder(tape);
                for (int i = a[1] - 1; i >= 0; i--) {
                    more.append((char) (a[0] >>> 8 * i & 255));
                }
                tape = more.toString();
                return tape.length();
            case "wipe":
                tape = "";
                return had;
            default:
                String text = tape;
                tape = "";
                try {
                    return new Telling(text, shop.twin()).all();
                } catch (Fault f) {
                    return -1 - f.place;
                }
        }
    }

    private final class Telling {
        private final List<String> tokens = new ArrayList<>();
        private final List<Integer> places = new ArrayList<>();
        private final Shop draft;
        private int at = 0;

        Telling(String text, Shop draft) {
            this.draft = draft;
            Matcher m = Pattern.compile("[a-z]+|[0-9]+|[^ ]", Pattern.DOTALL).matcher(text);
            while (m.find()) {
                tokens.add(m.group());
                places.add(m.start());
            }
            tokens.add("");
            places.add(text.length());
        }

        private Fault fault() {
            return new Fault(places.get(at));
        }

        private boolean word(String w) {
            if (tokens.get(at).equals(w)) {
                at++;
                return true;
            }
            return false;
        }

        private int number(int most) {
            String t = tokens.get(at);
            if (!t.matches("[0-9]+") || new java.math.BigInteger(t).compareTo(java.math.BigInteger.valueOf(most)) > 0) {
                throw fault();
            }
            at++;
            return new java.math.BigInteger(t).intValue();
        }

        long all() {
            long items = 0;
            do {
                item();
                items++;
            } while (word(";"));
            if (!tokens.get(at).isEmpty()) {
                throw fault();
            }
            shop = draft;
            return items;
        }

        private void item() {
            int kind = List.of("candle", "star", "altar", "rush", "paschal", "triple").indexOf(tokens.get(at));
            if (kind >= 0) {
                if (draft.sticks.size() == 10) {
                    throw fault();
                }
                at++;
                draft.sticks.add(new Stick(kind));
            } else if (word("vat")) {
                vat(draft.vats[number(3)]);
            } else if (word("dip")) {
                int candle = number(draft.sticks.size() - 1);
                if (!word("in")) {
                    throw fault();
                }
                draft.dip(candle, number(3));
            } else if (word("wood")) {
                draft.wood = number(9999);
            } else if (word("draught")) {
                draft.draught = number(9);
            } else {
                throw fault();
            }
        }

        private void vat(int[] v) {
            if (word("tallow")) {
                v[0] = 0;
            } else if (word("wax")) {
                v[0] = 1;
            }
            if (word("warm")) {
                v[1] = number(99);
            }
            if (word("holds")) {
                v[2] = number(99999);
            }
            if (word("fire")) {
                v[3] = 1;
            } else if (word("cold")) {
                v[3] = 0;
            }
        }
    }

    private void put(int s, int i, long v) {
        sheets[s][i] = bits[s] == 8 ? (byte) v : bits[s] == 16 ? (short) v : v;
    }

    private long sheetCalls(String call, int[] a, long[] longs) {
        need(in(a[0], 0, 3), BEYOND);
        int s = a[0];
        if (call.equals("sheet")) {
            need(List.of(0, 8, 16, 64).contains(a[1]), BEYOND);
            need(a[2] >= 0, SIZE);
            need(a[2] <= 40, BEYOND);
            bits[s] = a[1];
            sheets[s] = a[1] == 0 ? null : new long[a[2]];
            return a[1] == 0 ? 0 : a[2];
        }
        if (call.equals("copy")) {
            need(in(a[2], 0, 3), BEYOND);
            need(sheets[s] != null && sheets[a[2]] != null, MISSING);
            need(bits[s] == bits[a[2]], KIND);
            need(a[1] >= 0 && a[3] >= 0 && a[4] >= 0, BEYOND);
            need((long) a[1] + a[4] <= sheets[s].length && (long) a[3] + a[4] <= sheets[a[2]].length, BEYOND);
            long[] were = sheets[s].clone();
            for (int i = 0; i < a[4]; i++) {
                sheets[a[2]][a[3] + i] = were[a[1] + i];
            }
            return a[4];
        }
        need(sheets[s] != null, MISSING);
        switch (call) {
            case "write":
                need(in(a[1], 0, sheets[s].length - 1), BEYOND);
                long was = sheets[s][a[1]];
                put(s, a[1], longs[2]);
                return was;
            case "lays":
                Stick laid = stick(a[1]);
                int dips = 0;
                while (dips < sheets[s].length && in(sheets[s][dips], 0, 3) && laid.layers.size() < 40) {
                    shop.dip(a[1], (int) sheets[s][dips]);
                    dips++;
                }
                return dips;
            case "show":
                Stick shown = stick(a[1]);
                int i = 0;
                for (; i < sheets[s].length && i < shown.layers.size(); i++) {
                    put(s, i, shown.told(i));
                }
                return i;
            default:
                need(in(a[1], 0, 5), BEYOND);
                return read(sheets[s], a[1]);
        }
    }

    private long read(long[] layers, int kind) {
        int n = layers.length;
        need(n <= 6, SIZE);
        for (int number = 0; number < 1 << (2 * n); number++) {
            Shop twin = shop.twin();
            twin.sticks.clear();
            twin.sticks.add(new Stick(kind));
            for (int vat : row(number, n)) {
                twin.dip(0, vat);
            }
            Stick made = twin.sticks.get(0);
            boolean same = made.layers.size() == n;
            for (int i = 0; i < n && same; i++) {
                same = made.told(i) == layers[i];
            }
            if (same) {
                return number;
            }
        }
        throw new Found(NONE);
    }

    private long imageCalls(String call, int[] a) {
        switch (call) {
            case "image":
                kept = shop.twin();
                return 1;
            case "undo":
                need(kept != null, NONE);
                shop = kept.twin();
                return shop.sticks.size();
            case "tear":
                int was = kept == null ? 0 : 1;
                kept = null;
                return was;
            case "count":
                need(in(a[0], 0, 3), BEYOND);
                int layers = shop.sticks.stream().mapToInt(s -> s.layers.size()).sum();
                int lit = 0;
                for (int v = 0; v < 4; v++) {
                    lit += shop.vats[v][3] << v;
                }
                return new int[] {shop.sticks.size(), layers, tape.length(), lit}[a[0]];
            default:
                need(in(a[0], -1, 6), BEYOND);
                return a[0] >= 0 ? found[a[0]] : Arrays.stream(found).sum();
        }
    }
}
