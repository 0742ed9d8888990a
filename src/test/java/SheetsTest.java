/** Promises 31 to 36. */
public final class SheetsTest {
    private static final Check CHECK = new Check();

    public static void main(String[] args) {
        sheet();
        write();
        copy();
        copyFindings();
        lays();
        show();
        read();
        readFindings();
        CHECK.end("SheetsTest");
    }

    /** What stands there, which stays. */
    private static long at(FortyDips x, int s, int i) {
        long was = x.write(s, i, 0);
        x.write(s, i, was);
        return was;
    }

    private static void put(FortyDips x, int s, long... numbers) {
        x.sheet(s, 64, numbers.length);
        for (int i = 0; i < numbers.length; i++) {
            x.write(s, i, numbers[i]);
        }
    }

    private static void sheet() {
        FortyDips x = new FortyDips();
        CHECK.due("31: sheet(3, 8, 40)", x.sheet(3, 8, 40), 40);
        CHECK.due("31: all 0", x.write(3, 39, 5), 0);
        CHECK.due("31: sheet(3, 16, 40)", x.sheet(3, 16, 40), 40);
        CHECK.due("31: all 0 again", x.write(3, 39, 5), 0);
        CHECK.due("31: sheet(3, 64, 0)", x.sheet(3, 64, 0), 0);
        CHECK.due("31: no number", x.write(3, 0, 5), Check.BEYOND);
        CHECK.due("31: sheet(3, 0, 7)", x.sheet(3, 0, 7), 0);
        CHECK.due("31: it is missing", x.write(3, 0, 5), Check.MISSING);
        CHECK.finds("31: sheet(4, 8, 1)", x, Check.BEYOND, y -> y.sheet(4, 8, 1));
        CHECK.finds("31: sheet(-1, 8, 1)", x, Check.BEYOND, y -> y.sheet(-1, 8, 1));
        CHECK.finds("31: sheet(0, 32, 1)", x, Check.BEYOND, y -> y.sheet(0, 32, 1));
        CHECK.finds("31: sheet(0, -8, 1)", x, Check.BEYOND, y -> y.sheet(0, -8, 1));
        CHECK.finds("31: bits ahead of SIZE", x, Check.BEYOND, y -> y.sheet(0, 7, -1));
        CHECK.finds("31: sheet(0, 8, -1)", x, Check.SIZE, y -> y.sheet(0, 8, -1));
        CHECK.finds("31: sheet(0, 0, -1)", x, Check.SIZE, y -> y.sheet(0, 0, -1));
        CHECK.finds("31: sheet(0, 8, 41)", x, Check.BEYOND, y -> y.sheet(0, 8, 41));
        x.sheet(0, 8, 2);
        x.write(0, 1, 6);
        CHECK.finds("31: sheet(0, 0, 41)", x, Check.BEYOND, y -> y.sheet(0, 0, 41));
        CHECK.due("31: it is as it was", at(x, 0, 1), 6);
    }

    private static void write() {
        FortyDips x = new FortyDips();
        long[] tried = {127, 128, 255, 256, -128, -129, 32767, 32768, -32769, 65536, 1L << 40, Long.MIN_VALUE, -1};
        x.sheet(0, 8, 1);
        x.sheet(1, 16, 1);
        x.sheet(2, 64, 1);
        for (long v : tried) {
            x.write(0, 0, v);
            CHECK.due("32: 8 bits of " + v, at(x, 0, 0), (byte) v);
            x.write(1, 0, v);
            CHECK.due("32: 16 bits of " + v, at(x, 1, 0), (short) v);
            x.write(2, 0, v);
            CHECK.due("32: 64 bits of " + v, at(x, 2, 0), v);
        }
        CHECK.finds("32: write(4, 0, 0)", x, Check.BEYOND, y -> y.write(4, 0, 0));
        CHECK.finds("32: write(-1, 0, 0)", x, Check.BEYOND, y -> y.write(-1, 0, 0));
        CHECK.finds("32: write(3, 0, 0)", x, Check.MISSING, y -> y.write(3, 0, 0));
        CHECK.finds("32: MISSING ahead of the number", x, Check.MISSING, y -> y.write(3, -1, 0));
        CHECK.finds("32: write(0, 1, 0)", x, Check.BEYOND, y -> y.write(0, 1, 0));
        CHECK.finds("32: write(0, -1, 0)", x, Check.BEYOND, y -> y.write(0, -1, 0));
        int findings = x.status(-1);
        x.write(2, 0, Check.BEYOND);
        CHECK.due("32: a number like a finding", x.write(2, 0, 0), Check.BEYOND);
        CHECK.due("32: is none", x.status(-1), findings);
    }

    private static void copy() {
        FortyDips x = new FortyDips();
        put(x, 0, 1, 2, 3, 4, 5);
        put(x, 1, 9, 9, 9);
        CHECK.due("33: copy(0, 1, 1, 1, 2)", x.copy(0, 1, 1, 1, 2), 2);
        CHECK.due("33: stays", at(x, 1, 0), 9);
        CHECK.due("33: comes", at(x, 1, 1), 2);
        CHECK.due("33: comes", at(x, 1, 2), 3);
        CHECK.due("33: of one sheet, up", x.copy(0, 0, 0, 1, 4), 4);
        for (int i = 0; i < 5; i++) {
            CHECK.due("33: as they were", at(x, 0, i), i == 0 ? 1 : i);
        }
        put(x, 0, 1, 2, 3, 4, 5);
        CHECK.due("33: of one sheet, down", x.copy(0, 1, 0, 0, 4), 4);
        for (int i = 0; i < 5; i++) {
            CHECK.due("33: as they were", at(x, 0, i), i == 4 ? 5 : i + 2);
        }
        CHECK.due("33: none, at the end", x.copy(0, 5, 1, 3, 0), 0);
        CHECK.due("33: all", x.copy(1, 0, 0, 2, 3), 3);
    }

    private static void copyFindings() {
        FortyDips x = new FortyDips();
        put(x, 0, 1, 2, 3);
        put(x, 1, 4, 5);
        x.sheet(2, 16, 3);
        CHECK.finds("33: no such sheet", x, Check.BEYOND, y -> y.copy(4, 0, 0, 0, 1));
        CHECK.finds("33: no such sheet", x, Check.BEYOND, y -> y.copy(0, 0, -1, 0, 1));
        CHECK.finds("33: BEYOND ahead of MISSING", x, Check.BEYOND, y -> y.copy(3, 0, 4, 0, 1));
        CHECK.finds("33: MISSING", x, Check.MISSING, y -> y.copy(3, 0, 0, 0, 1));
        CHECK.finds("33: MISSING", x, Check.MISSING, y -> y.copy(0, 0, 3, 0, 1));
        CHECK.finds("33: MISSING ahead of BEYOND", x, Check.MISSING, y -> y.copy(0, -1, 3, 0, 1));
        CHECK.finds("33: KIND", x, Check.KIND, y -> y.copy(0, 0, 2, 0, 1));
        CHECK.finds("33: KIND ahead of BEYOND", x, Check.KIND, y -> y.copy(0, 0, 2, 0, -1));
        CHECK.finds("33: from has not so many", x, Check.BEYOND, y -> y.copy(0, 2, 1, 0, 2));
        CHECK.finds("33: to has not so many", x, Check.BEYOND, y -> y.copy(0, 0, 1, 1, 2));
        CHECK.finds("33: from below 0", x, Check.BEYOND, y -> y.copy(0, -1, 1, 0, 1));
        CHECK.finds("33: to below 0", x, Check.BEYOND, y -> y.copy(0, 0, 1, -1, 1));
        CHECK.finds("33: n below 0", x, Check.BEYOND, y -> y.copy(0, 0, 1, 0, -1));
        CHECK.finds("33: behind the end", x, Check.BEYOND, y -> y.copy(0, 4, 1, 0, 0));
        CHECK.finds("33: a sum that wraps", x, Check.BEYOND,
                y -> y.copy(0, Integer.MAX_VALUE, 1, 0, Integer.MAX_VALUE));
        CHECK.finds("33: a sum that wraps", x, Check.BEYOND,
                y -> y.copy(0, 1, 1, Integer.MAX_VALUE, 1));
        CHECK.due("33: all as it was", at(x, 1, 0) + 10 * at(x, 1, 1), 54);
    }

    private static void lays() {
        FortyDips x = Check.with(0);
        put(x, 0, 3, 0, 4, 1);
        CHECK.due("34: up to the first that is none", x.lays(0, 0), 2);
        CHECK.due("34: a layer", x.layer(0, 0), -6);
        CHECK.due("34: a layer", x.layer(0, 1), 6);
        CHECK.due("34: two", x.of(0, 1), 2);
        CHECK.due("34: the vat", x.vatOf(3, 1), 48);
        put(x, 0, -1);
        CHECK.tells("34: below 0", x, 0, y -> y.lays(0, 0));
        put(x, 0, 1L << 32);
        CHECK.tells("34: its lowest bits are not asked", x, 0, y -> y.lays(0, 0));
        put(x, 0);
        CHECK.tells("34: an empty sheet", x, 0, y -> y.lays(0, 0));
        x.vat(1, 2, 0);
        put(x, 0, 1, 1);
        CHECK.due("34: dips without layers count", x.lays(0, 0), 2);
        CHECK.due("34: no layer", x.of(0, 1), 2);
        x.sheet(0, 8, 40);
        CHECK.due("34: up to the 40th layer", x.lays(0, 0), 38);
        CHECK.due("34: 40 layers", x.of(0, 1), 40);
        CHECK.tells("34: none more", x, 0, y -> y.lays(0, 0));
        CHECK.finds("34: lays(4, 0)", x, Check.BEYOND, y -> y.lays(4, 0));
        CHECK.finds("34: lays(-1, 0)", x, Check.BEYOND, y -> y.lays(-1, 0));
        CHECK.finds("34: lays(1, 0)", x, Check.MISSING, y -> y.lays(1, 0));
        CHECK.finds("34: MISSING ahead of candle", x, Check.MISSING, y -> y.lays(1, 1));
        CHECK.finds("34: lays(0, 1)", x, Check.BEYOND, y -> y.lays(0, 1));
    }

    private static void show() {
        FortyDips x = Check.with(0);
        x.dip(0, 0);
        x.dip(0, 3);
        x.sheet(0, 8, 3);
        x.write(0, 2, 77);
        CHECK.tells("35: as many as there are", x, 2, y -> y.show(0, 0));
        CHECK.due("35: the first", at(x, 0, 0), 6);
        CHECK.due("35: the second", at(x, 0, 1), -6);
        CHECK.due("35: others stay", at(x, 0, 2), 77);
        x.sheet(1, 64, 1);
        CHECK.tells("35: as far as it has numbers", x, 1, y -> y.show(1, 0));
        CHECK.due("35: the first", at(x, 1, 0), 6);
        x.sheet(1, 16, 0);
        CHECK.tells("35: an empty sheet", x, 0, y -> y.show(1, 0));
        CHECK.finds("35: show(4, 0)", x, Check.BEYOND, y -> y.show(4, 0));
        CHECK.finds("35: show(2, 0)", x, Check.MISSING, y -> y.show(2, 0));
        CHECK.finds("35: MISSING ahead of candle", x, Check.MISSING, y -> y.show(2, 1));
        CHECK.finds("35: show(0, 1)", x, Check.BEYOND, y -> y.show(0, 1));
        CHECK.finds("35: show(0, -1)", x, Check.BEYOND, y -> y.show(0, -1));
    }

    private static void read() {
        FortyDips x = new FortyDips();
        put(x, 0);
        CHECK.tells("36: an empty sheet", x, 0, y -> y.read(0, 0));
        put(x, 0, 6, -6);
        CHECK.tells("36: 0 3", x, 3, y -> y.read(0, 0));
        put(x, 0, -6, 6);
        CHECK.tells("36: 3 0", x, 12, y -> y.read(0, 0));
        put(x, 0, -18, 19, -20);
        CHECK.tells("36: a triple", x, 48 + 3, y -> y.read(0, 5));
        put(x, 0, -18, 18, -18);
        CHECK.tells("36: a star", x, 48 + 3, y -> y.read(0, 1));
        put(x, 0, 6, -3, 3, 3);
        CHECK.tells("36: a rush", x, 48, y -> y.read(0, 3));
        put(x, 0, -6, -6, -6, -6, -6, -6);
        CHECK.tells("36: six", x, 4095, y -> y.read(0, 0));
        x.vat(3, 2, 31);
        CHECK.finds("36: too little wax", x, Check.NONE, y -> y.read(0, 0));
        x.write(0, 5, -1);
        CHECK.tells("36: what is left", x, 4095, y -> y.read(0, 0));
        x.vat(0, 1, 31);
        put(x, 0, 6, 9);
        CHECK.tells("36: colder by the first", x, 0, y -> y.read(0, 0));
        x.vat(0, 1, 28);
        put(x, 0, 6, 6, 9, 6);
        CHECK.tells("36: the least row", x, 64 + 16 + 1, y -> y.read(0, 0));
        x.vat(0, 1, 50);
        x.vat(0, 2, 7);
        put(x, 0, 6, 6, 1);
        CHECK.tells("36: a vat that was tried holds what it held", x, 4, y -> y.read(0, 0));
        x.vat(0, 1, 32);
        x.vat(0, 2, 2000);
        x.vat(1, 0, 1);
        put(x, 0, 6, -6, 6);
        CHECK.tells("36: a vat that was tried is as warm", x, 4, y -> y.read(0, 0));
        x.candle(0);
        x.dip(0, 2);
        x.most(0, 1);
        CHECK.tells("36: of a new candle", x, 4, y -> y.read(0, 0));
        x.sheet(0, 8, 1);
        x.write(0, 0, 256 - 6);
        CHECK.tells("36: of 8 bits", x, 1, y -> y.read(0, 0));
    }

    private static void readFindings() {
        FortyDips x = new FortyDips();
        put(x, 0, 1, 2, 3, 4, 5, 6, 7);
        CHECK.finds("36: read(4, 0)", x, Check.BEYOND, y -> y.read(4, 0));
        CHECK.finds("36: read(1, 0)", x, Check.MISSING, y -> y.read(1, 0));
        CHECK.finds("36: MISSING ahead of kind", x, Check.MISSING, y -> y.read(1, 6));
        CHECK.finds("36: kind ahead of SIZE", x, Check.BEYOND, y -> y.read(0, 6));
        CHECK.finds("36: read(0, -1)", x, Check.BEYOND, y -> y.read(0, -1));
        CHECK.finds("36: seven numbers", x, Check.SIZE, y -> y.read(0, 0));
        put(x, 0, 6, 0);
        CHECK.finds("36: no layer of nothing", x, Check.NONE, y -> y.read(0, 0));
        x.vat(1, 2, 0);
        CHECK.finds("36: nor by an empty vat", x, Check.NONE, y -> y.read(0, 0));
        put(x, 0, 6, (1L << 32) + 6);
        CHECK.finds("36: its lowest bits are not asked", x, Check.NONE, y -> y.read(0, 0));
        put(x, 0, 6, 1);
        x.vat(1, 1, 99);
        CHECK.finds("36: what is left of one is no row of as many", x, Check.NONE, y -> y.read(0, 0));
    }
}
