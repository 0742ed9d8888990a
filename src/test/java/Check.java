import java.util.ArrayList;
import java.util.List;

/** What the tests share: answers compared with the ones due, and all that can be seen of an object. */
final class Check {
    static final int BEYOND = -1000000001;
    static final int FULL = -1000000002;
    static final int KIND = -1000000003;
    static final int NONE = -1000000004;
    static final int STATE = -1000000005;
    static final int MISSING = -1000000006;
    static final int SIZE = -1000000007;

    private int wrong = 0;
    private int asked = 0;

    interface Call {
        long on(FortyDips x);
    }

    void due(String call, long got, long want) {
        asked++;
        if (got != want) {
            wrong++;
            System.out.println(call + " answered " + got + ", due is " + want);
        }
    }

    /** The call answers this finding, status() counts it once, and nothing else changes. */
    void finds(String call, FortyDips x, int finding, Call made) {
        int which = BEYOND - finding;
        int all = x.status(-1);
        int ofThese = x.status(which);
        List<Long> before = seen(x);
        due(call, made.on(x), finding);
        due("status(-1) behind " + call, x.status(-1), all + 1);
        due("status(" + which + ") behind " + call, x.status(which), ofThese + 1);
        asked++;
        if (!before.equals(seen(x))) {
            wrong++;
            System.out.println(call + " answered a finding and changed something");
        }
    }

    /** The call answers this and changes nothing at all. */
    void tells(String call, FortyDips x, long want, Call made) {
        int all = x.status(-1);
        List<Long> before = seen(x);
        due(call, made.on(x), want);
        due("status(-1) behind " + call, x.status(-1), all);
        asked++;
        if (!before.equals(seen(x))) {
            wrong++;
            System.out.println(call + " changed something");
        }
    }

    /** All that can be seen but status(): it asks only for what is there, so that it finds nothing. */
    static List<Long> seen(FortyDips x) {
        List<Long> all = new ArrayList<>();
        for (int vat = 0; vat < 4; vat++) {
            for (int what = 0; what < 4; what++) {
                all.add((long) x.vatOf(vat, what));
            }
        }
        for (int what = 0; what < 5; what++) {
            all.add((long) x.now(what));
        }
        for (int what = 0; what < 4; what++) {
            all.add((long) x.count(what));
        }
        int candles = x.count(0);
        for (int c = 0; c < candles; c++) {
            for (int what = 0; what < 5; what++) {
                all.add((long) x.of(c, what));
            }
            int layers = x.of(c, 1);
            for (int i = 0; i < layers; i++) {
                all.add((long) x.layer(c, i));
            }
        }
        return all;
    }

    static void feed(FortyDips x, String text) {
        for (int i = 0; i < text.length(); i++) {
            x.feed(text.charAt(i), 1);
        }
    }

    static int told(FortyDips x, String text) {
        feed(x, text);
        return x.text();
    }

    /** A chandlery with one candle of this kind. */
    static FortyDips with(int kind) {
        FortyDips x = new FortyDips();
        x.candle(kind);
        return x;
    }

    void end(String test) {
        System.out.println(test + ": " + asked + " answers, " + wrong + " of them not as due");
        if (wrong != 0) {
            System.exit(1);
        }
    }
}
