import java.util.Arrays;

/** A chandlery: vats, candles dipped into them, hours that go, rows of dips, a text and sheets. */
public final class FortyDips {

    private static final int BEYOND = -1000000001;
    private static final int FULL = -1000000002;
    private static final int KIND = -1000000003;
    private static final int NONE = -1000000004;
    private static final int STATE = -1000000005;
    private static final int MISSING = -1000000006;
    private static final int SIZE = -1000000007;
    private static final int FINDINGS = 7;

    private static final int VATS = 4;
    private static final int MOST_WARMTH = 99;
    private static final int MOST_HOLDS = 99999;
    private static final int MOST_WOOD = 9999;
    private static final int MOST_DRAUGHT = 9;
    private static final int MOST_HOUR = 9999;
    private static final int MOST_MINUTES = 9999;
    private static final int FARTHEST = 200;
    private static final int[] MOST_OF_VAT = {1, MOST_WARMTH, MOST_HOLDS, 1};

    private static final int CANDLES = 10;
    private static final int MOST_LAYERS = 40;
    private static final int KINDS = 6;
    private static final int CANDLE = 0;
    private static final int STAR = 1;
    private static final int ALTAR = 2;
    private static final int RUSH = 3;
    private static final int PASCHAL = 4;
    private static final int TRIPLE = 5;
    private static final int[] KIND_ABOVE = {-1, CANDLE, CANDLE, CANDLE, ALTAR, STAR};
    private static final int MINUTES_OF_TALLOW = 3;
    private static final int MINUTES_OF_WAX = 5;

    private static final int MOST_DIPS = 6;
    private static final int MOST_BYTES = 120;
    private static final int SHEETS = 4;
    private static final int MOST_NUMBERS = 40;

    private final Chandlery shop;
    private final Chandlery kept;
    private boolean keeps;
    private final Vats later;
    private final Candle trial;
    private final Vat trialVat;
    private final Rows rows;
    private final Tape tape;
    private final Text teller;
    private final Sheet[] sheets;
    private final int[] found;

    // All rows are made here and used again by every call: no call makes an object.
    public FortyDips() {
        shop = new Chandlery();
        kept = new Chandlery();
        keeps = false;
        later = new Vats();
        trial = new Candle();
        trialVat = new Vat();
        rows = new Rows();
        tape = new Tape();
        teller = new Text(tape);
        sheets = new Sheet[SHEETS];
        for (int s = 0; s < SHEETS; s++) {
            sheets[s] = new Sheet();
        }
        found = new int[FINDINGS];
    }

    // ---- vats

    public int vatOf(int vat, int what) {
        if (!isVat(vat) || !within(what, 0, 3)) {
            return finding(BEYOND);
        }
        return shop.vats.each[vat].part(what);
    }

    public int vat(int vat, int what, int v) {
        if (!isVat(vat) || !within(what, 0, 3) || !within(v, 0, MOST_OF_VAT[what])) {
            return finding(BEYOND);
        }
        Vat changed = shop.vats.each[vat];
        int was = changed.part(what);
        changed.setPart(what, v);
        return was;
    }

    public int let(int what, int v) {
        if (!within(what, 0, 1) || !within(v, 0, what == 0 ? MOST_WOOD : MOST_DRAUGHT)) {
            return finding(BEYOND);
        }
        int was;
        if (what == 0) {
            was = shop.vats.wood;
            shop.vats.wood = v;
        } else {
            was = shop.vats.draught;
            shop.vats.draught = v;
        }
        return was;
    }

    // ---- candles

    public int candle(int kind) {
        if (!isKind(kind)) {
            return finding(BEYOND);
        }
        if (!shop.addCandle(kind)) {
            return finding(FULL);
        }
        return shop.size - 1;
    }

    public int of(int candle, int what) {
        if (!shop.has(candle) || !within(what, 0, 4)) {
            return finding(BEYOND);
        }
        Candle one = shop.candles[candle];
        switch (what) {
            case 0:
                return one.kind;
            case 1:
                return one.size;
            case 2:
                return one.grams();
            case 3:
                return one.wax;
            default:
                return one.minutes();
        }
    }

    public int layer(int candle, int i) {
        if (!shop.has(candle) || i < 0) {
            return finding(BEYOND);
        }
        Candle one = shop.candles[candle];
        if (i >= one.size) {
            return finding(NONE);
        }
        return one.layers[i];
    }

    public int turn(int candle, int kind) {
        if (!shop.has(candle) || !isKind(kind)) {
            return finding(BEYOND);
        }
        Candle one = shop.candles[candle];
        int was = one.kind;
        one.kind = kind;
        return was;
    }

    public int as(int candle, int kind) {
        if (!shop.has(candle) || !isKind(kind)) {
            return finding(BEYOND);
        }
        Candle one = shop.candles[candle];
        if (!isUnder(one.kind, kind)) {
            return finding(KIND);
        }
        return one.minutes();
    }

    public int takes(int candle, int vat) {
        if (!shop.has(candle) || !isVat(vat)) {
            return finding(BEYOND);
        }
        return shop.candles[candle].gain(shop.vats.each[vat].warmth);
    }

    public int dip(int candle, int vat) {
        if (!shop.has(candle) || !isVat(vat)) {
            return finding(BEYOND);
        }
        Candle one = shop.candles[candle];
        if (one.isThick()) {
            return finding(STATE);
        }
        one.dipInto(shop.vats.each[vat]);
        return one.grams();
    }

    public int melt(int candle, int vat) {
        if (!shop.has(candle) || !isVat(vat)) {
            return finding(BEYOND);
        }
        Candle one = shop.candles[candle];
        int grams = one.grams();
        shop.vats.each[vat].pourIn(grams);
        one.strip();
        return grams;
    }

    public int burn(int candle, int m) {
        if (!shop.has(candle) || !within(m, 1, MOST_MINUTES)) {
            return finding(BEYOND);
        }
        Candle one = shop.candles[candle];
        one.burnDown(m);
        return one.grams();
    }

    // ---- hours

    public int hours(int n) {
        if (!within(n, 1, FARTHEST)) {
            return finding(BEYOND);
        }
        if (shop.vats.hour + n > MOST_HOUR) {
            return finding(STATE);
        }
        int before = shop.vats.wood;
        shop.vats.pass(n);
        return before - shop.vats.wood;
    }

    public int now(int what) {
        switch (what) {
            case 0:
                return shop.vats.hour;
            case 1:
                return shop.vats.wood;
            case 2:
                return shop.vats.draught;
            case 3:
                return shop.vats.grams();
            case 4:
                return shop.candleGrams();
            default:
                return finding(BEYOND);
        }
    }

    public int warm(int vat, int n) {
        if (!isVat(vat) || !within(n, 0, FARTHEST)) {
            return finding(BEYOND);
        }
        if (shop.vats.hour + n > MOST_HOUR) {
            return finding(STATE);
        }
        later.become(shop.vats);
        later.pass(n);
        return later.each[vat].warmth;
    }

    public int when(int vat, int v) {
        if (!isVat(vat) || !within(v, 0, MOST_WARMTH)) {
            return finding(BEYOND);
        }
        if (shop.vats.hour + FARTHEST > MOST_HOUR) {
            return finding(STATE);
        }
        later.become(shop.vats);
        for (int h = 0; h <= FARTHEST; h++) {
            if (later.each[vat].warmth >= v) {
                return h;
            }
            later.pass(1);
        }
        return finding(NONE);
    }

    public int takesIn(int candle, int vat, int v) {
        if (!shop.has(candle) || !isVat(vat) || !within(v, 1, 99)) {
            return finding(BEYOND);
        }
        if (shop.vats.hour + FARTHEST > MOST_HOUR) {
            return finding(STATE);
        }
        Candle one = shop.candles[candle];
        later.become(shop.vats);
        for (int h = 0; h <= FARTHEST; h++) {
            if (one.gain(later.each[vat].warmth) >= v) {
                return h;
            }
            later.pass(1);
        }
        return finding(NONE);
    }

    // ---- rows of dips

    public int burns(int candle, int vat, int n) {
        if (!shop.has(candle) || !isVat(vat) || !within(n, 0, 40)) {
            return finding(BEYOND);
        }
        Candle one = shop.candles[candle];
        return minutesBehind(one, one.kind, shop.vats.each[vat], n);
    }

    public int fewest(int candle, int v) {
        if (!shop.has(candle) || !within(v, 0, MOST_MINUTES)) {
            return finding(BEYOND);
        }
        int dips = fewestDips(shop.candles[candle], v);
        if (dips < 0) {
            return finding(NONE);
        }
        return dips;
    }

    public int ith(int candle, int v, int i) {
        if (!shop.has(candle) || !within(v, 0, MOST_MINUTES) || !within(i, 0, MOST_DIPS - 1)) {
            return finding(BEYOND);
        }
        int dips = fewestDips(shop.candles[candle], v);
        if (i >= dips) {
            return finding(NONE);
        }
        return (rows.first >> (2 * (dips - 1 - i))) & 3;
    }

    public int ways(int candle, int v, int n) {
        if (!shop.has(candle) || !within(v, 0, MOST_MINUTES) || !within(n, 0, MOST_DIPS)) {
            return finding(BEYOND);
        }
        rows.walk(shop.vats, shop.candles[candle], n, v);
        return rows.just;
    }

    public int most(int candle, int n) {
        if (!shop.has(candle) || !within(n, 0, MOST_DIPS)) {
            return finding(BEYOND);
        }
        rows.walk(shop.vats, shop.candles[candle], n, 0);
        return rows.longest;
    }

    public int best(int candle) {
        if (!shop.has(candle)) {
            return finding(BEYOND);
        }
        Candle one = shop.candles[candle];
        if (one.isThick()) {
            return finding(STATE);
        }
        int bestVat = 0;
        int longest = -1;
        for (int vat = 0; vat < VATS; vat++) {
            int minutes = minutesBehind(one, one.kind, shop.vats.each[vat], 1);
            if (minutes > longest) {
                longest = minutes;
                bestVat = vat;
            }
        }
        return bestVat;
    }

    public int kind(int candle, int vat, int n) {
        if (!shop.has(candle) || !isVat(vat) || !within(n, 0, 40)) {
            return finding(BEYOND);
        }
        int bestKind = 0;
        int longest = -1;
        for (int kind = 0; kind < KINDS; kind++) {
            int minutes = minutesBehind(shop.candles[candle], kind, shop.vats.each[vat], n);
            if (minutes > longest) {
                longest = minutes;
                bestKind = kind;
            }
        }
        return bestKind;
    }

    public int fires(int v, int n) {
        if (!within(v, 0, MOST_WARMTH) || !within(n, 1, 100)) {
            return finding(BEYOND);
        }
        if (shop.vats.hour + n > MOST_HOUR) {
            return finding(STATE);
        }
        int bestSet = -1;
        int mostLeft = -1;
        for (int set = 0; set < 1 << VATS; set++) {
            later.become(shop.vats);
            later.light(set);
            later.pass(n);
            if (later.coldest() >= v && later.wood > mostLeft) {
                mostLeft = later.wood;
                bestSet = set;
            }
        }
        if (bestSet < 0) {
            return finding(NONE);
        }
        return bestSet;
    }

    public int enough(int v) {
        if (!within(v, 0, MOST_MINUTES)) {
            return finding(BEYOND);
        }
        int set = 0;
        for (int c = 0; c < shop.size; c++) {
            if (shop.candles[c].minutes() >= v) {
                set |= 1 << c;
            }
        }
        return set;
    }

    // ---- the text

    public int feed(int bytes, int n) {
        if (!within(n, 1, 4)) {
            return finding(BEYOND);
        }
        if (tape.length + n > MOST_BYTES) {
            return finding(FULL);
        }
        for (int i = n - 1; i >= 0; i--) {
            tape.append((bytes >> (8 * i)) & 255);
        }
        return tape.length;
    }

    public int wipe() {
        int had = tape.length;
        tape.length = 0;
        return had;
    }

    public int text() {
        int answer = teller.tell(shop);
        if (answer >= 0) {
            shop.become(teller.draft);
        }
        tape.length = 0;
        return answer;
    }

    // ---- sheets

    public int sheet(int s, int bits, int n) {
        if (!isSheet(s) || (bits != 0 && bits != 8 && bits != 16 && bits != 64)) {
            return finding(BEYOND);
        }
        if (n < 0) {
            return finding(SIZE);
        }
        if (n > MOST_NUMBERS) {
            return finding(BEYOND);
        }
        sheets[s].lay(bits, n);
        return sheets[s].size;
    }

    public long write(int s, int i, long v) {
        if (!isSheet(s)) {
            return finding(BEYOND);
        }
        Sheet one = sheets[s];
        if (one.isMissing()) {
            return finding(MISSING);
        }
        if (!within(i, 0, one.size - 1)) {
            return finding(BEYOND);
        }
        long was = one.numbers[i];
        one.put(i, v);
        return was;
    }

    public int copy(int s, int from, int t, int to, int n) {
        if (!isSheet(s) || !isSheet(t)) {
            return finding(BEYOND);
        }
        Sheet source = sheets[s];
        Sheet target = sheets[t];
        if (source.isMissing() || target.isMissing()) {
            return finding(MISSING);
        }
        if (source.bits != target.bits) {
            return finding(KIND);
        }
        if (!source.hasRun(from, n) || !target.hasRun(to, n)) {
            return finding(BEYOND);
        }
        System.arraycopy(source.numbers, from, target.numbers, to, n);
        return n;
    }

    public int lays(int s, int candle) {
        int wrong = wrongSheet(s);
        if (wrong != 0) {
            return finding(wrong);
        }
        if (!shop.has(candle)) {
            return finding(BEYOND);
        }
        Sheet told = sheets[s];
        Candle one = shop.candles[candle];
        int dips = 0;
        for (int i = 0; i < told.size; i++) {
            long vat = told.numbers[i];
            if (vat < 0 || vat >= VATS || one.isThick()) {
                break;
            }
            one.dipInto(shop.vats.each[(int) vat]);
            dips++;
        }
        return dips;
    }

    public int show(int s, int candle) {
        int wrong = wrongSheet(s);
        if (wrong != 0) {
            return finding(wrong);
        }
        if (!shop.has(candle)) {
            return finding(BEYOND);
        }
        Sheet cut = sheets[s];
        Candle one = shop.candles[candle];
        int shown = Math.min(one.size, cut.size);
        for (int i = 0; i < shown; i++) {
            cut.put(i, one.layers[i]);
        }
        return shown;
    }

    public int read(int s, int kind) {
        int wrong = wrongSheet(s);
        if (wrong != 0) {
            return finding(wrong);
        }
        if (!isKind(kind)) {
            return finding(BEYOND);
        }
        if (sheets[s].size > MOST_DIPS) {
            return finding(SIZE);
        }
        int row = rows.rowThatMade(shop.vats, sheets[s], kind);
        if (row < 0) {
            return finding(NONE);
        }
        return row;
    }

    // ---- images

    public int image() {
        kept.become(shop);
        keeps = true;
        return 1;
    }

    public int undo() {
        if (!keeps) {
            return finding(NONE);
        }
        shop.become(kept);
        return shop.size;
    }

    public int tear() {
        int was = keeps ? 1 : 0;
        keeps = false;
        return was;
    }

    public int count(int what) {
        switch (what) {
            case 0:
                return shop.size;
            case 1:
                return shop.layersOfAll();
            case 2:
                return tape.length;
            case 3:
                return shop.vats.lit();
            default:
                return finding(BEYOND);
        }
    }

    public int status(int which) {
        if (!within(which, -1, FINDINGS - 1)) {
            return finding(BEYOND);
        }
        if (which >= 0) {
            return found[which];
        }
        int sum = 0;
        for (int f = 0; f < FINDINGS; f++) {
            sum += found[f];
        }
        return sum;
    }

    // ---- what several calls share

    private int finding(int code) {
        int place = BEYOND - code;
        if (within(place, 0, FINDINGS - 1)) {
            found[place]++;
        }
        return code;
    }

    // 0, or the finding that a call which needs a sheet answers ahead of all else.
    private int wrongSheet(int s) {
        if (!isSheet(s)) {
            return BEYOND;
        }
        return sheets[s].isMissing() ? MISSING : 0;
    }

    private int minutesBehind(Candle one, int kind, Vat vat, int dips) {
        trial.become(one);
        trial.kind = kind;
        trialVat.become(vat);
        for (int i = 0; i < dips; i++) {
            trial.dipInto(trialVat);
        }
        return trial.minutes();
    }

    // -1 if six dips are not enough; else rows.first is the first row of so few.
    private int fewestDips(Candle one, int minutes) {
        for (int dips = 0; dips <= MOST_DIPS; dips++) {
            rows.walk(shop.vats, one, dips, minutes);
            if (rows.first >= 0) {
                return dips;
            }
        }
        return -1;
    }

    private static boolean within(int x, int least, int greatest) {
        return x >= least && x <= greatest;
    }

    private static boolean isVat(int vat) {
        return within(vat, 0, VATS - 1);
    }

    private static boolean isKind(int kind) {
        return within(kind, 0, KINDS - 1);
    }

    private static boolean isSheet(int s) {
        return within(s, 0, SHEETS - 1);
    }

    private static boolean isUnder(int kind, int above) {
        int k = kind;
        for (int step = 0; step < KINDS && isKind(k); step++) {
            if (k == above) {
                return true;
            }
            k = KIND_ABOVE[k];
        }
        return false;
    }

    private static int plainGain(int warmth) {
        if (warmth < 30) {
            return 9;
        }
        if (warmth < 60) {
            return 6;
        }
        return warmth < 80 ? 4 : -5;
    }

    private static int altarGain(int plain) {
        return plain > 1 ? plain - 1 : plain;
    }

    private static int moreIfAny(int grams, int more) {
        return grams > 0 ? grams + more : grams;
    }

    private static final class Vat {
        boolean wax;
        int warmth;
        int holds;
        boolean fire;

        void become(Vat other) {
            wax = other.wax;
            warmth = other.warmth;
            holds = other.holds;
            fire = other.fire;
        }

        int part(int what) {
            switch (what) {
                case 0:
                    return wax ? 1 : 0;
                case 1:
                    return warmth;
                case 2:
                    return holds;
                default:
                    return fire ? 1 : 0;
            }
        }

        void setPart(int what, int v) {
            switch (what) {
                case 0:
                    wax = v == 1;
                    break;
                case 1:
                    warmth = v;
                    break;
                case 2:
                    holds = v;
                    break;
                default:
                    fire = v == 1;
                    break;
            }
        }

        int pourOut(int grams) {
            int out = Math.min(grams, holds);
            holds -= out;
            return out;
        }

        void pourIn(int grams) {
            holds = Math.min(MOST_HOLDS, holds + grams);
        }

        void heat() {
            warmth = Math.min(MOST_WARMTH, warmth + 10);
        }

        void cool(int by) {
            warmth = Math.max(0, warmth - by);
        }
    }

    /** The vats with what keeps them warm: all that hours change. */
    private static final class Vats {
        final Vat[] each;
        int wood;
        int draught;
        int hour;

        Vats() {
            each = new Vat[VATS];
            for (int v = 0; v < VATS; v++) {
                Vat vat = new Vat();
                vat.wax = v == 3;
                vat.warmth = 50;
                vat.holds = 2000;
                each[v] = vat;
            }
            wood = 50;
            draught = 2;
        }

        void become(Vats other) {
            for (int v = 0; v < VATS; v++) {
                each[v].become(other.each[v]);
            }
            wood = other.wood;
            draught = other.draught;
            hour = other.hour;
        }

        void pass(int hours) {
            for (int h = 0; h < hours; h++) {
                for (int v = 0; v < VATS; v++) {
                    tend(each[v]);
                }
                hour++;
            }
        }

        private void tend(Vat vat) {
            if (vat.fire && wood > 0) {
                wood--;
                vat.heat();
            } else {
                vat.cool(draught);
            }
        }

        void light(int set) {
            for (int v = 0; v < VATS; v++) {
                each[v].fire = ((set >> v) & 1) == 1;
            }
        }

        int lit() {
            int set = 0;
            for (int v = 0; v < VATS; v++) {
                if (each[v].fire) {
                    set |= 1 << v;
                }
            }
            return set;
        }

        int coldest() {
            int least = MOST_WARMTH;
            for (int v = 0; v < VATS; v++) {
                least = Math.min(least, each[v].warmth);
            }
            return least;
        }

        int grams() {
            int sum = 0;
            for (int v = 0; v < VATS; v++) {
                sum += each[v].holds;
            }
            return sum;
        }
    }

    private static final class Candle {
        int kind;
        int size;
        int tallow;
        int wax;
        // Grams of each layer, below 0 for wax: as layer() answers them.
        final int[] layers;

        Candle() {
            layers = new int[MOST_LAYERS];
        }

        void become(Candle other) {
            kind = other.kind;
            size = other.size;
            tallow = other.tallow;
            wax = other.wax;
            System.arraycopy(other.layers, 0, layers, 0, size);
        }

        void strip() {
            size = 0;
            tallow = 0;
            wax = 0;
        }

        int grams() {
            return tallow + wax;
        }

        boolean isThick() {
            return size >= MOST_LAYERS;
        }

        int gain(int warmth) {
            int plain = plainGain(warmth);
            switch (kind) {
                case STAR:
                    return 3 * plain;
                case ALTAR:
                    return altarGain(plain);
                case RUSH:
                    return size == 0 ? plain : plain / 2;
                case PASCHAL:
                    return moreIfAny(altarGain(plain), 5);
                case TRIPLE:
                    return moreIfAny(3 * plain, size);
                default:
                    return plain;
            }
        }

        int minutes() {
            int plain = MINUTES_OF_TALLOW * tallow + MINUTES_OF_WAX * wax;
            switch (kind) {
                case STAR:
                case TRIPLE:
                    return plain / 3;
                case ALTAR:
                    return plain + plain / 10;
                case RUSH:
                    return Math.min(plain, 60);
                case PASCHAL:
                    return plain + plain / 10 + 30;
                default:
                    return plain;
            }
        }

        void dipInto(Vat vat) {
            if (isThick()) {
                return;
            }
            int gain = gain(vat.warmth);
            if (gain > 0) {
                addLayer(vat.pourOut(gain), vat.wax);
            } else {
                vat.pourIn(loseGrams(-gain));
            }
            vat.cool(2);
        }

        private void addLayer(int grams, boolean ofWax) {
            if (grams <= 0 || isThick()) {
                return;
            }
            if (ofWax) {
                wax += grams;
                layers[size] = -grams;
            } else {
                tallow += grams;
                layers[size] = grams;
            }
            size++;
        }

        private int loseGrams(int grams) {
            int lost = 0;
            for (int i = size - 1; i >= 0 && lost < grams; i--) {
                int off = Math.min(grams - lost, Math.abs(layers[i]));
                thin(i, off);
                lost += off;
            }
            return lost;
        }

        void burnDown(int minutes) {
            int left = minutes;
            for (int i = size - 1; i >= 0; i--) {
                int each = layers[i] < 0 ? MINUTES_OF_WAX : MINUTES_OF_TALLOW;
                int gone = Math.min(left / each, Math.abs(layers[i]));
                thin(i, gone);
                left -= gone * each;
                // A layer that stays stops the flame: it never reaches one below.
                if (size > i) {
                    break;
                }
            }
        }

        // Of the last layer alone, which is gone when it is empty.
        private void thin(int last, int grams) {
            if (layers[last] < 0) {
                wax -= grams;
                layers[last] += grams;
            } else {
                tallow -= grams;
                layers[last] -= grams;
            }
            if (layers[last] == 0) {
                size = last;
            }
        }
    }

    /** All that an image keeps. */
    private static final class Chandlery {
        final Vats vats;
        final Candle[] candles;
        int size;

        Chandlery() {
            vats = new Vats();
            candles = new Candle[CANDLES];
            for (int c = 0; c < CANDLES; c++) {
                candles[c] = new Candle();
            }
        }

        void become(Chandlery other) {
            vats.become(other.vats);
            size = other.size;
            for (int c = 0; c < CANDLES; c++) {
                candles[c].become(other.candles[c]);
            }
        }

        boolean has(int candle) {
            return within(candle, 0, size - 1);
        }

        boolean addCandle(int kind) {
            if (size >= CANDLES) {
                return false;
            }
            candles[size].strip();
            candles[size].kind = kind;
            size++;
            return true;
        }

        int candleGrams() {
            int sum = 0;
            for (int c = 0; c < size; c++) {
                sum += candles[c].grams();
            }
            return sum;
        }

        int layersOfAll() {
            int sum = 0;
            for (int c = 0; c < size; c++) {
                sum += candles[c].size;
            }
            return sum;
        }
    }

    /** Tries rows of at most six dips, on copies. A row is a number: its vats as digits, four to one. */
    private static final class Rows {
        private final Vats vats;
        // The candle behind so many dips of the row that is tried.
        private final Candle[] behind;
        private int length;
        private int wanted;
        int just;
        int longest;
        int first;

        Rows() {
            vats = new Vats();
            behind = new Candle[MOST_DIPS + 1];
            for (int d = 0; d <= MOST_DIPS; d++) {
                behind[d] = new Candle();
            }
        }

        void walk(Vats from, Candle one, int dips, int minutes) {
            vats.become(from);
            behind[0].become(one);
            length = dips;
            wanted = minutes;
            just = 0;
            longest = 0;
            first = -1;
            walkOn(0, 0);
        }

        private void walkOn(int depth, int row) {
            if (depth >= length || depth >= MOST_DIPS) {
                judge(behind[depth].minutes(), row);
                return;
            }
            for (int v = 0; v < VATS; v++) {
                Vat vat = vats.each[v];
                int warmth = vat.warmth;
                int holds = vat.holds;
                dipNext(depth, vat);
                walkOn(depth + 1, 4 * row + v);
                vat.warmth = warmth;
                vat.holds = holds;
            }
        }

        private void judge(int minutes, int row) {
            if (minutes == wanted) {
                just++;
            }
            if (minutes > longest) {
                longest = minutes;
            }
            if (first < 0 && minutes >= wanted) {
                first = row;
            }
        }

        private void dipNext(int depth, Vat vat) {
            behind[depth + 1].become(behind[depth]);
            behind[depth + 1].dipInto(vat);
        }

        // -1 if no row makes a new candle with just these layers.
        int rowThatMade(Vats from, Sheet layers, int kind) {
            vats.become(from);
            behind[0].strip();
            behind[0].kind = kind;
            return seek(layers, 0, 0);
        }

        private int seek(Sheet layers, int depth, int row) {
            if (depth >= layers.size || depth >= MOST_DIPS) {
                return row;
            }
            int made = -1;
            for (int v = 0; v < VATS && made < 0; v++) {
                Vat vat = vats.each[v];
                int warmth = vat.warmth;
                int holds = vat.holds;
                dipNext(depth, vat);
                // A dip adds one layer at most: as many dips as layers, so each must add its own.
                if (behind[depth + 1].size == depth + 1
                        && behind[depth + 1].layers[depth] == layers.numbers[depth]) {
                    made = seek(layers, depth + 1, 4 * row + v);
                }
                vat.warmth = warmth;
                vat.holds = holds;
            }
            return made;
        }
    }

    private static final class Tape {
        final int[] bytes;
        int length;

        Tape() {
            bytes = new int[MOST_BYTES];
        }

        void append(int b) {
            if (length < MOST_BYTES) {
                bytes[length] = b;
                length++;
            }
        }
    }

    /** Tells the tape as a chandlery's text, on a draft, so that a fault changes nothing. */
    private static final class Text {
        private static final int END = 0;
        private static final int WORD = 1;
        private static final int NUMBER = 2;
        private static final int SIGN = 3;
        private static final int OTHER = 4;

        private final Tape tape;
        final Chandlery draft;
        // The token that is looked at: its type, its bytes, its value if it is a number.
        private int type;
        private int start;
        private int end;
        private int value;

        Text(Tape told) {
            tape = told;
            draft = new Chandlery();
        }

        // How many items, or -1 less the place of the fault.
        int tell(Chandlery from) {
            draft.become(from);
            end = 0;
            next();
            for (int items = 1; items <= MOST_BYTES; items++) {
                if (!item()) {
                    return -1 - start;
                }
                if (type == END) {
                    return items;
                }
                if (type != SIGN) {
                    return -1 - start;
                }
                next();
            }
            return -1 - start;
        }

        // Each of these leaves the token behind it, or answers false at the token that can't stand.
        private boolean item() {
            int kind = kindNamed();
            if (kind >= 0) {
                return newCandle(kind);
            }
            if (skips("vat")) {
                return vatItem();
            }
            if (skips("dip")) {
                return dipItem();
            }
            if (skips("wood")) {
                if (!isNumber(MOST_WOOD)) {
                    return false;
                }
                draft.vats.wood = value;
                next();
                return true;
            }
            if (!skips("draught") || !isNumber(MOST_DRAUGHT)) {
                return false;
            }
            draft.vats.draught = value;
            next();
            return true;
        }

        private boolean newCandle(int kind) {
            if (!draft.addCandle(kind)) {
                return false;
            }
            next();
            return true;
        }

        private boolean vatItem() {
            if (!isNumber(VATS - 1)) {
                return false;
            }
            Vat vat = draft.vats.each[value];
            next();
            if (skips("tallow")) {
                vat.wax = false;
            } else if (skips("wax")) {
                vat.wax = true;
            }
            if (skips("warm") && !setsPart(vat, 1)) {
                return false;
            }
            if (skips("holds") && !setsPart(vat, 2)) {
                return false;
            }
            if (skips("fire")) {
                vat.fire = true;
            } else if (skips("cold")) {
                vat.fire = false;
            }
            return true;
        }

        private boolean setsPart(Vat vat, int what) {
            if (!isNumber(MOST_OF_VAT[what])) {
                return false;
            }
            vat.setPart(what, value);
            next();
            return true;
        }

        private boolean dipItem() {
            if (!isNumber(draft.size - 1)) {
                return false;
            }
            Candle one = draft.candles[value];
            next();
            if (!skips("in") || !isNumber(VATS - 1)) {
                return false;
            }
            one.dipInto(draft.vats.each[value]);
            next();
            return true;
        }

        private int kindNamed() {
            if (isWord("candle")) {
                return CANDLE;
            }
            if (isWord("star")) {
                return STAR;
            }
            if (isWord("altar")) {
                return ALTAR;
            }
            if (isWord("rush")) {
                return RUSH;
            }
            if (isWord("paschal")) {
                return PASCHAL;
            }
            return isWord("triple") ? TRIPLE : -1;
        }

        private boolean skips(String word) {
            if (!isWord(word)) {
                return false;
            }
            next();
            return true;
        }

        private boolean isWord(String word) {
            if (type != WORD || end - start != word.length()) {
                return false;
            }
            for (int i = 0; i < word.length(); i++) {
                if (byteAt(start + i) != word.charAt(i)) {
                    return false;
                }
            }
            return true;
        }

        private boolean isNumber(int greatest) {
            return type == NUMBER && value <= greatest;
        }

        private void next() {
            start = end;
            while (start < tape.length && byteAt(start) == ' ') {
                start++;
            }
            end = start;
            if (start >= tape.length) {
                type = END;
            } else if (isLetter(byteAt(start))) {
                type = WORD;
                passWord();
            } else if (isDigit(byteAt(start))) {
                type = NUMBER;
                passNumber();
            } else {
                type = byteAt(start) == ';' ? SIGN : OTHER;
                end++;
            }
        }

        private void passWord() {
            while (end < tape.length && isLetter(byteAt(end))) {
                end++;
            }
        }

        private void passNumber() {
            value = 0;
            while (end < tape.length && isDigit(byteAt(end))) {
                // One above the greatest number is as wrong as any other, and can't overflow.
                value = Math.min(99999 + 1, 10 * value + byteAt(end) - '0');
                end++;
            }
        }

        private int byteAt(int place) {
            return place >= 0 && place < MOST_BYTES ? tape.bytes[place] : -1;
        }

        private static boolean isLetter(int b) {
            return b >= 'a' && b <= 'z';
        }

        private static boolean isDigit(int b) {
            return b >= '0' && b <= '9';
        }
    }

    private static final class Sheet {
        // 0: the sheet is missing.
        int bits;
        int size;
        // Each cut to the sheet's bits, with its sign.
        final long[] numbers;

        Sheet() {
            numbers = new long[MOST_NUMBERS];
        }

        boolean isMissing() {
            return bits == 0;
        }

        void lay(int newBits, int newSize) {
            bits = newBits;
            size = newBits == 0 ? 0 : newSize;
            Arrays.fill(numbers, 0L);
        }

        void put(int i, long v) {
            if (!within(i, 0, size - 1)) {
                return;
            }
            switch (bits) {
                case 8:
                    numbers[i] = (byte) v;
                    break;
                case 16:
                    numbers[i] = (short) v;
                    break;
                default:
                    numbers[i] = v;
                    break;
            }
        }

        // Compares without adding the two, whose sum could wrap around.
        boolean hasRun(int from, int n) {
            return from >= 0 && n >= 0 && from <= size && n <= size - from;
        }
    }
}
