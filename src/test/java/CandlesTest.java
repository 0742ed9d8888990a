/** Promises 5 to 13. */
public final class CandlesTest {
    private static final Check CHECK = new Check();
    private static final int CANDLE = 0;
    private static final int STAR = 1;
    private static final int ALTAR = 2;
    private static final int RUSH = 3;
    private static final int PASCHAL = 4;
    private static final int TRIPLE = 5;

    public static void main(String[] args) {
        candle();
        of();
        layer();
        turn();
        as();
        takes();
        dip();
        dipTooWarm();
        dipForty();
        melt();
        burn();
        CHECK.end("CandlesTest");
    }

    private static void candle() {
        FortyDips x = new FortyDips();
        CHECK.finds("5: candle(-1)", x, Check.BEYOND, y -> y.candle(-1));
        CHECK.finds("5: candle(6)", x, Check.BEYOND, y -> y.candle(6));
        for (int c = 0; c < 10; c++) {
            CHECK.due("5: candle", x.candle(c % 6), c);
            CHECK.due("5: of its kind", x.of(c, 0), c % 6);
            CHECK.due("5: no layers", x.of(c, 1), 0);
        }
        CHECK.finds("5: an 11th", x, Check.FULL, y -> y.candle(0));
        CHECK.finds("5: kind ahead of FULL", x, Check.BEYOND, y -> y.candle(6));
    }

    private static void of() {
        int[] minutes = {6 * 3 + 6 * 5, (18 * 3 + 18 * 5) / 3, 40 + 4, 60, 80 + 8 + 30, (18 * 3 + 19 * 5) / 3};
        int[] wax = {6, 18, 5, 3, 10, 19};
        int[] tallow = {6, 18, 5, 6, 10, 18};
        for (int kind = 0; kind < 6; kind++) {
            FortyDips x = Check.with(kind);
            CHECK.due("6: an empty one burns", x.of(0, 4), kind == PASCHAL ? 30 : 0);
            x.dip(0, 0);
            x.dip(0, 3);
            CHECK.due("6: kind", x.of(0, 0), kind);
            CHECK.due("6: layers", x.of(0, 1), 2);
            CHECK.due("6: grams", x.of(0, 2), tallow[kind] + wax[kind]);
            CHECK.due("6: wax", x.of(0, 3), wax[kind]);
            if (kind != RUSH) {
                CHECK.due("6: minutes of kind " + kind, x.of(0, 4), minutes[kind]);
            }
        }
        FortyDips x = Check.with(RUSH);
        for (int i = 0; i < 4; i++) {
            x.dip(0, 3);
        }
        CHECK.due("6: a rush burns", x.of(0, 4), 60);
        x.burn(0, 20);
        CHECK.due("6: grams of a rush", x.of(0, 2), 11);
        CHECK.due("6: a shorter rush burns", x.of(0, 4), 55);
        CHECK.finds("6: of(1, 0)", x, Check.BEYOND, y -> y.of(1, 0));
        CHECK.finds("6: of(-1, 0)", x, Check.BEYOND, y -> y.of(-1, 0));
        CHECK.finds("6: of(0, 5)", x, Check.BEYOND, y -> y.of(0, 5));
        CHECK.finds("6: of(0, -1)", x, Check.BEYOND, y -> y.of(0, -1));
        quotientsAreCut();
    }

    private static void quotientsAreCut() {
        FortyDips x = Check.with(STAR);
        x.vat(3, 2, 1);
        x.dip(0, 3);
        CHECK.due("6: a third of 5", x.of(0, 4), 1);
        x.turn(0, ALTAR);
        CHECK.due("6: 5 and a tenth of it", x.of(0, 4), 5);
        x.turn(0, PASCHAL);
        CHECK.due("6: 5 and a tenth of it and 30", x.of(0, 4), 35);
        x.vat(0, 2, 1);
        x.turn(0, CANDLE);
        x.dip(0, 0);
        x.vat(3, 2, 2);
        x.dip(0, 3);
        x.turn(0, ALTAR);
        CHECK.due("6: 18 and a tenth of it", x.of(0, 4), 19);
    }

    private static void layer() {
        FortyDips x = Check.with(CANDLE);
        CHECK.finds("7: layer(0, 0)", x, Check.NONE, y -> y.layer(0, 0));
        x.dip(0, 3);
        x.dip(0, 0);
        CHECK.tells("7: layer(0, 0)", x, -6, y -> y.layer(0, 0));
        CHECK.tells("7: layer(0, 1)", x, 6, y -> y.layer(0, 1));
        CHECK.finds("7: layer(0, 2)", x, Check.NONE, y -> y.layer(0, 2));
        CHECK.finds("7: layer(0, 40)", x, Check.NONE, y -> y.layer(0, 40));
        CHECK.finds("7: layer(0, greatest)", x, Check.NONE, y -> y.layer(0, Integer.MAX_VALUE));
        CHECK.finds("7: layer(0, -1)", x, Check.BEYOND, y -> y.layer(0, -1));
        CHECK.finds("7: layer(1, 0)", x, Check.BEYOND, y -> y.layer(1, 0));
        CHECK.finds("7: layer(-1, 0)", x, Check.BEYOND, y -> y.layer(-1, 0));
        x.vat(0, 0, 1);
        CHECK.due("7: a layer stays of what its vat was of", x.layer(0, 1), 6);
    }

    private static void turn() {
        FortyDips x = Check.with(CANDLE);
        x.dip(0, 0);
        CHECK.due("8: turn(0, 5)", x.turn(0, TRIPLE), CANDLE);
        CHECK.due("8: of(0, 0)", x.of(0, 0), TRIPLE);
        CHECK.due("8: turn(0, 5)", x.turn(0, TRIPLE), TRIPLE);
        CHECK.due("8: turn(0, 3)", x.turn(0, RUSH), TRIPLE);
        CHECK.due("8: layers stay", x.layer(0, 0), 6);
        CHECK.finds("8: turn(0, 6)", x, Check.BEYOND, y -> y.turn(0, 6));
        CHECK.finds("8: turn(0, -1)", x, Check.BEYOND, y -> y.turn(0, -1));
        CHECK.finds("8: turn(1, 0)", x, Check.BEYOND, y -> y.turn(1, 0));
    }

    private static void as() {
        int[][] fits = {{0}, {0, 1}, {0, 2}, {0, 3}, {0, 2, 4}, {0, 1, 5}};
        for (int own = 0; own < 6; own++) {
            FortyDips x = Check.with(own);
            x.dip(0, 3);
            int minutes = x.of(0, 4);
            for (int k = 0; k < 6; k++) {
                int kind = k;
                boolean fit = false;
                for (int f : fits[own]) {
                    fit |= f == kind;
                }
                String call = "9: one of kind " + own + ": as(0, " + kind + ")";
                if (fit) {
                    CHECK.tells(call, x, minutes, y -> y.as(0, kind));
                } else {
                    CHECK.finds(call, x, Check.KIND, y -> y.as(0, kind));
                }
            }
            CHECK.finds("9: as(0, 6)", x, Check.BEYOND, y -> y.as(0, 6));
            CHECK.finds("9: as(0, -1)", x, Check.BEYOND, y -> y.as(0, -1));
            CHECK.finds("9: as(1, 0)", x, Check.BEYOND, y -> y.as(1, 0));
        }
    }

    private static void takes() {
        int[] warmths = {0, 29, 30, 59, 60, 79, 80, 99};
        int[][] fresh = {
            {9, 9, 6, 6, 4, 4, -5, -5},
            {27, 27, 18, 18, 12, 12, -15, -15},
            {8, 8, 5, 5, 3, 3, -5, -5},
            {9, 9, 6, 6, 4, 4, -5, -5},
            {13, 13, 10, 10, 8, 8, -5, -5},
            {27, 27, 18, 18, 12, 12, -15, -15}};
        int[][] dippedTwice = {
            fresh[0], fresh[1], fresh[2],
            {4, 4, 3, 3, 2, 2, -2, -2},
            fresh[4],
            {29, 29, 20, 20, 14, 14, -15, -15}};
        for (int kind = 0; kind < 6; kind++) {
            FortyDips x = Check.with(kind);
            for (int i = 0; i < 8; i++) {
                x.vat(1, 1, warmths[i]);
                CHECK.tells("10: takes, warmth " + warmths[i], x, fresh[kind][i], y -> y.takes(0, 1));
            }
            x.dip(0, 0);
            x.dip(0, 0);
            for (int i = 0; i < 8; i++) {
                x.vat(1, 1, warmths[i]);
                CHECK.tells("10: takes, two layers, warmth " + warmths[i], x, dippedTwice[kind][i], y -> y.takes(0, 1));
            }
        }
        FortyDips x = Check.with(CANDLE);
        x.vat(0, 2, 1);
        CHECK.tells("10: takes is not less for a vat that holds less", x, 6, y -> y.takes(0, 0));
        CHECK.finds("10: takes(0, 4)", x, Check.BEYOND, y -> y.takes(0, 4));
        CHECK.finds("10: takes(0, -1)", x, Check.BEYOND, y -> y.takes(0, -1));
        CHECK.finds("10: takes(1, 0)", x, Check.BEYOND, y -> y.takes(1, 0));
    }

    private static void dip() {
        FortyDips x = Check.with(CANDLE);
        CHECK.due("11: dip(0, 0)", x.dip(0, 0), 6);
        CHECK.due("11: the vat holds less", x.vatOf(0, 2), 1994);
        CHECK.due("11: the vat is colder", x.vatOf(0, 1), 48);
        CHECK.due("11: another one is not", x.vatOf(1, 1), 50);
        x.vat(0, 2, 4);
        CHECK.due("11: all that it holds", x.dip(0, 0), 10);
        CHECK.due("11: it is empty", x.vatOf(0, 2), 0);
        CHECK.due("11: dip into nothing", x.dip(0, 0), 10);
        CHECK.due("11: no layer by that", x.of(0, 1), 2);
        CHECK.due("11: colder by that, too", x.vatOf(0, 1), 44);
        x.vat(1, 1, 1);
        CHECK.due("11: dip into a cold one", x.dip(0, 1), 19);
        CHECK.due("11: 0 at least", x.vatOf(1, 1), 0);
        CHECK.finds("11: dip(0, 4)", x, Check.BEYOND, y -> y.dip(0, 4));
        CHECK.finds("11: dip(0, -1)", x, Check.BEYOND, y -> y.dip(0, -1));
        CHECK.finds("11: dip(1, 0)", x, Check.BEYOND, y -> y.dip(1, 0));
        CHECK.finds("11: dip(-1, 0)", x, Check.BEYOND, y -> y.dip(-1, 0));
    }

    private static void dipTooWarm() {
        FortyDips x = Check.with(STAR);
        x.turn(0, CANDLE);
        x.dip(0, 0);
        x.vat(3, 2, 4);
        x.dip(0, 3);
        x.dip(0, 0);
        x.vat(1, 1, 99);
        x.turn(0, STAR);
        CHECK.due("11: 15 come off", x.dip(0, 1), 1);
        CHECK.due("11: empty layers are gone", x.of(0, 1), 1);
        CHECK.due("11: what is left of the first", x.layer(0, 0), 1);
        CHECK.due("11: no wax is left", x.of(0, 3), 0);
        CHECK.due("11: into the vat", x.vatOf(1, 2), 2015);
        CHECK.due("11: colder", x.vatOf(1, 1), 97);
        CHECK.due("11: as far as there are", x.dip(0, 1), 0);
        CHECK.due("11: no layer", x.of(0, 1), 0);
        CHECK.due("11: just that into the vat", x.vatOf(1, 2), 2016);
        CHECK.due("11: from nothing", x.dip(0, 1), 0);
        CHECK.due("11: nothing into the vat", x.vatOf(1, 2), 2016);
        CHECK.due("11: colder all the same", x.vatOf(1, 1), 93);
        x.turn(0, CANDLE);
        x.dip(0, 0);
        x.vat(1, 2, 99997);
        CHECK.due("11: 5 come off", x.dip(0, 1), 1);
        CHECK.due("11: it holds no more", x.vatOf(1, 2), 99999);
        x.turn(0, RUSH);
        x.vat(0, 1, 50);
        x.dip(0, 0);
        CHECK.due("11: half of 5 come off", x.dip(0, 1), 2);
    }

    private static void dipForty() {
        FortyDips x = Check.with(CANDLE);
        x.vat(0, 1, 0);
        for (int i = 1; i <= 40; i++) {
            CHECK.due("11: dip " + i, x.dip(0, 0), 9 * i);
        }
        CHECK.due("11: 40 layers", x.of(0, 1), 40);
        CHECK.finds("11: a 41st", x, Check.STATE, y -> y.dip(0, 0));
        x.vat(1, 1, 99);
        CHECK.finds("11: one that would take off", x, Check.STATE, y -> y.dip(0, 1));
        CHECK.finds("11: BEYOND ahead of STATE", x, Check.BEYOND, y -> y.dip(0, 4));
    }

    private static void melt() {
        FortyDips x = Check.with(CANDLE);
        CHECK.due("12: melt an empty one", x.melt(0, 2), 0);
        x.dip(0, 0);
        x.dip(0, 3);
        CHECK.due("12: melt(0, 2)", x.melt(0, 2), 12);
        CHECK.due("12: no layers", x.of(0, 1), 0);
        CHECK.due("12: no grams", x.of(0, 2), 0);
        CHECK.due("12: no wax", x.of(0, 3), 0);
        CHECK.due("12: the vat holds more", x.vatOf(2, 2), 2012);
        CHECK.due("12: the vat is as warm", x.vatOf(2, 1), 50);
        CHECK.due("12: the candle is there", x.count(0), 1);
        x.dip(0, 0);
        x.vat(2, 2, 99997);
        CHECK.due("12: melt into a full one", x.melt(0, 2), 6);
        CHECK.due("12: it holds no more", x.vatOf(2, 2), 99999);
        CHECK.finds("12: melt(0, 4)", x, Check.BEYOND, y -> y.melt(0, 4));
        CHECK.finds("12: melt(0, -1)", x, Check.BEYOND, y -> y.melt(0, -1));
        CHECK.finds("12: melt(1, 0)", x, Check.BEYOND, y -> y.melt(1, 0));
    }

    private static void burn() {
        FortyDips x = Check.with(PASCHAL);
        x.turn(0, CANDLE);
        x.dip(0, 0);
        x.dip(0, 3);
        x.dip(0, 0);
        CHECK.due("13: not enough for one", x.burn(0, 1), 18);
        CHECK.due("13: not enough for one", x.burn(0, 2), 18);
        CHECK.due("13: enough for one", x.burn(0, 5), 17);
        CHECK.due("13: the last layer, and not enough for wax", x.burn(0, 19), 12);
        CHECK.due("13: two layers", x.of(0, 1), 2);
        CHECK.due("13: tallow below wax is not reached", x.burn(0, 4), 12);
        CHECK.due("13: five of wax", x.burn(0, 29), 7);
        CHECK.due("13: one of wax, one of tallow", x.burn(0, 8), 5);
        CHECK.due("13: wax is gone", x.of(0, 3), 0);
        CHECK.due("13: one layer", x.of(0, 1), 1);
        CHECK.due("13: all of it", x.burn(0, 9999), 0);
        CHECK.due("13: no layer", x.of(0, 1), 0);
        CHECK.finds("13: burn(0, 0)", x, Check.BEYOND, y -> y.burn(0, 0));
        CHECK.finds("13: burn(0, 10000)", x, Check.BEYOND, y -> y.burn(0, 10000));
        CHECK.finds("13: burn(1, 1)", x, Check.BEYOND, y -> y.burn(1, 1));
        x.dip(0, 0);
        x.dip(0, 0);
        x.dip(0, 0);
        x.melt(0, 0);
        x.dip(0, 0);
        CHECK.due("13: layers that were melted do not burn", x.burn(0, 9), 3);
        CHECK.due("13: what is left is tallow", x.layer(0, 0), 3);
        FortyDips star = Check.with(STAR);
        star.dip(0, 0);
        CHECK.due("13: whatever the kind", star.burn(0, 6), 16);
    }
}
