/** Promises 19 to 27. */
public final class RowsTest {
    private static final Check CHECK = new Check();

    public static void main(String[] args) {
        burns();
        fewest();
        ith();
        ways();
        most();
        best();
        kind();
        fires();
        enough();
        CHECK.end("RowsTest");
    }

    private static FortyDips ofForty() {
        FortyDips x = Check.with(0);
        x.vat(0, 1, 0);
        for (int i = 0; i < 40; i++) {
            x.dip(0, 0);
        }
        return x;
    }

    private static void burns() {
        FortyDips x = Check.with(0);
        CHECK.tells("19: burns(0, 3, 0)", x, 0, y -> y.burns(0, 3, 0));
        CHECK.tells("19: burns(0, 3, 2)", x, 60, y -> y.burns(0, 3, 2));
        // Ten dips at 50 to 32, one at 30, then below 30.
        CHECK.tells("19: burns(0, 3, 12)", x, 11 * 30 + 45, y -> y.burns(0, 3, 12));
        CHECK.tells("19: burns(0, 0, 40)", x, 11 * 18 + 29 * 27, y -> y.burns(0, 0, 40));
        x.vat(1, 2, 8);
        CHECK.tells("19: the vat is empty", x, 24, y -> y.burns(0, 1, 40));
        CHECK.finds("19: burns(0, 3, 41)", x, Check.BEYOND, y -> y.burns(0, 3, 41));
        CHECK.finds("19: burns(0, 3, -1)", x, Check.BEYOND, y -> y.burns(0, 3, -1));
        CHECK.finds("19: burns(0, 4, 1)", x, Check.BEYOND, y -> y.burns(0, 4, 1));
        CHECK.finds("19: burns(1, 3, 1)", x, Check.BEYOND, y -> y.burns(1, 3, 1));
        FortyDips thick = ofForty();
        thick.vat(1, 1, 99);
        CHECK.tells("19: with 40 layers", thick, 1080, y -> y.burns(0, 1, 3));
    }

    private static void fewest() {
        FortyDips x = Check.with(0);
        CHECK.tells("20: fewest(0, 0)", x, 0, y -> y.fewest(0, 0));
        CHECK.tells("20: fewest(0, 1)", x, 1, y -> y.fewest(0, 1));
        CHECK.tells("20: fewest(0, 30)", x, 1, y -> y.fewest(0, 30));
        CHECK.tells("20: fewest(0, 31)", x, 2, y -> y.fewest(0, 31));
        CHECK.tells("20: fewest(0, 180)", x, 6, y -> y.fewest(0, 180));
        CHECK.finds("20: fewest(0, 181)", x, Check.NONE, y -> y.fewest(0, 181));
        CHECK.finds("20: fewest(0, 9999)", x, Check.NONE, y -> y.fewest(0, 9999));
        CHECK.finds("20: fewest(0, 10000)", x, Check.BEYOND, y -> y.fewest(0, 10000));
        CHECK.finds("20: fewest(0, -1)", x, Check.BEYOND, y -> y.fewest(0, -1));
        CHECK.finds("20: fewest(1, 0)", x, Check.BEYOND, y -> y.fewest(1, 0));
        // Too warm to take by the first two dips: a row must cool it.
        for (int v = 0; v < 4; v++) {
            x.vat(v, 1, 83);
            x.vat(v, 2, v == 2 ? 2000 : 0);
        }
        CHECK.tells("20: cooled by dips", x, 3, y -> y.fewest(0, 12));
        CHECK.finds("20: with 40 layers", ofForty(), Check.NONE, y -> y.fewest(0, 1081));
    }

    private static void ith() {
        FortyDips x = Check.with(0);
        CHECK.tells("21: ith(0, 48, 0)", x, 0, y -> y.ith(0, 48, 0));
        CHECK.tells("21: ith(0, 48, 1)", x, 3, y -> y.ith(0, 48, 1));
        CHECK.finds("21: ith(0, 48, 2)", x, Check.NONE, y -> y.ith(0, 48, 2));
        CHECK.tells("21: ith(0, 36, 0)", x, 0, y -> y.ith(0, 36, 0));
        CHECK.tells("21: ith(0, 36, 1)", x, 0, y -> y.ith(0, 31, 1));
        CHECK.tells("21: ith(0, 180, 5)", x, 3, y -> y.ith(0, 180, 5));
        CHECK.finds("21: ith(0, 181, 0)", x, Check.NONE, y -> y.ith(0, 181, 0));
        CHECK.finds("21: ith(0, 0, 0)", x, Check.NONE, y -> y.ith(0, 0, 0));
        CHECK.finds("21: ith(0, 48, 6)", x, Check.BEYOND, y -> y.ith(0, 48, 6));
        CHECK.finds("21: ith(0, 48, -1)", x, Check.BEYOND, y -> y.ith(0, 48, -1));
        CHECK.finds("21: ith(0, 10000, 0)", x, Check.BEYOND, y -> y.ith(0, 10000, 0));
        CHECK.finds("21: ith(0, -1, 0)", x, Check.BEYOND, y -> y.ith(0, -1, 0));
        CHECK.finds("21: ith(1, 0, 0)", x, Check.BEYOND, y -> y.ith(1, 0, 0));
        // One dip of vat 3 has enough for 25 minutes, the next has nothing: then tallow.
        x.vat(3, 2, 5);
        CHECK.tells("21: in the order of numbers", x, 1, y -> {
            y.vat(0, 2, 0);
            int first = y.ith(0, 40, 0);
            y.vat(0, 2, 2000);
            return first;
        });
    }

    private static void ways() {
        FortyDips x = Check.with(0);
        CHECK.tells("22: ways(0, 0, 0)", x, 1, y -> y.ways(0, 0, 0));
        CHECK.tells("22: ways(0, 30, 1)", x, 1, y -> y.ways(0, 30, 1));
        CHECK.tells("22: ways(0, 18, 1)", x, 3, y -> y.ways(0, 18, 1));
        CHECK.tells("22: ways(0, 48, 2)", x, 6, y -> y.ways(0, 48, 2));
        CHECK.tells("22: ways(0, 108, 6)", x, 729, y -> y.ways(0, 108, 6));
        CHECK.tells("22: ways(0, 120, 6)", x, 6 * 243, y -> y.ways(0, 120, 6));
        CHECK.tells("22: none", x, 0, y -> y.ways(0, 19, 1));
        CHECK.tells("22: the greatest v", x, 0, y -> y.ways(0, 9999, 1));
        CHECK.finds("22: ways(0, -1, 0)", x, Check.BEYOND, y -> y.ways(0, -1, 0));
        CHECK.finds("22: ways(0, -1, 6)", x, Check.BEYOND, y -> y.ways(0, -1, 6));
        CHECK.finds("22: ways(0, 10000, 0)", x, Check.BEYOND, y -> y.ways(0, 10000, 0));
        CHECK.finds("22: the least int", x, Check.BEYOND, y -> y.ways(0, Integer.MIN_VALUE, 1));
        CHECK.finds("22: the greatest int", x, Check.BEYOND, y -> y.ways(0, Integer.MAX_VALUE, 1));
        CHECK.finds("22: ways(0, 0, 7)", x, Check.BEYOND, y -> y.ways(0, 0, 7));
        CHECK.finds("22: ways(0, 0, -1)", x, Check.BEYOND, y -> y.ways(0, 0, -1));
        CHECK.finds("22: ways(1, 0, 0)", x, Check.BEYOND, y -> y.ways(1, 0, 0));
        CHECK.tells("22: with 40 layers", ofForty(), 4096, y -> y.ways(0, 1080, 6));
        orderCounts();
        longestThatMayBeAsked();
    }

    /** A PASCHAL of 40 layers, of 1 gram of tallow and 1833 of wax: 9168 minutes as a CANDLE. */
    private static FortyDips ofTenThousand() {
        FortyDips x = Check.with(5);
        x.vat(0, 1, 0);
        x.vat(0, 2, 1);
        x.vat(3, 1, 0);
        x.dip(0, 0);
        for (int i = 1; i < 40; i++) {
            x.dip(0, 3);
        }
        x.turn(0, 4);
        return x;
    }

    private static void longestThatMayBeAsked() {
        FortyDips x = ofTenThousand();
        CHECK.tells("22: it burns longer than v may be", x, 10114, y -> y.of(0, 4));
        CHECK.finds("22: ways(0, 10114, 0)", x, Check.BEYOND, y -> y.ways(0, 10114, 0));
        x.burn(0, 105);
        CHECK.tells("22: it burns as long as v may be", x, 9999, y -> y.of(0, 4));
        CHECK.tells("22: ways(0, 9999, 0)", x, 1, y -> y.ways(0, 9999, 0));
        CHECK.tells("22: ways(0, 9999, 6)", x, 4096, y -> y.ways(0, 9999, 6));
    }

    private static void orderCounts() {
        FortyDips x = Check.with(0);
        for (int v = 1; v < 4; v++) {
            x.vat(v, 2, 0);
        }
        x.vat(2, 1, 99);
        // Behind two dips: 0 0: 36; 0 1, 0 3, 1 0, 3 0, 2 0: 18; 0 2: 3.
        CHECK.tells("22: off behind", x, 1, y -> y.ways(0, 3, 2));
        CHECK.tells("22: off ahead", x, 5, y -> y.ways(0, 18, 2));
        CHECK.tells("22: twice", x, 1, y -> y.ways(0, 36, 2));
        CHECK.tells("22: nothing", x, 9, y -> y.ways(0, 0, 2));
    }

    private static void most() {
        FortyDips x = Check.with(0);
        CHECK.tells("23: most(0, 0)", x, 0, y -> y.most(0, 0));
        CHECK.tells("23: most(0, 1)", x, 30, y -> y.most(0, 1));
        CHECK.tells("23: most(0, 6)", x, 180, y -> y.most(0, 6));
        x.vat(3, 2, 8);
        CHECK.tells("23: little wax", x, 30 + 2 * 18, y -> y.most(0, 3));
        CHECK.finds("23: most(0, 7)", x, Check.BEYOND, y -> y.most(0, 7));
        CHECK.finds("23: most(0, -1)", x, Check.BEYOND, y -> y.most(0, -1));
        CHECK.finds("23: most(1, 0)", x, Check.BEYOND, y -> y.most(1, 0));
        CHECK.tells("23: with 40 layers", ofForty(), 1080, y -> y.most(0, 6));
        FortyDips hot = Check.with(0);
        hot.dip(0, 0);
        for (int v = 0; v < 4; v++) {
            hot.vat(v, 1, 99);
        }
        CHECK.tells("23: it must be dipped", hot, 3, y -> y.most(0, 1));
    }

    private static void best() {
        FortyDips x = Check.with(0);
        CHECK.tells("24: wax", x, 3, y -> y.best(0));
        x.vat(3, 2, 6);
        CHECK.tells("24: by one dip alone", x, 3, y -> y.best(0));
        x.vat(3, 2, 0);
        CHECK.tells("24: of several the least", x, 0, y -> y.best(0));
        x.vat(2, 1, 29);
        CHECK.tells("24: a cold one", x, 2, y -> y.best(0));
        for (int v = 0; v < 4; v++) {
            x.vat(v, 1, 99);
        }
        CHECK.tells("24: all too warm", x, 0, y -> y.best(0));
        CHECK.finds("24: best(1)", x, Check.BEYOND, y -> y.best(1));
        CHECK.finds("24: best(-1)", x, Check.BEYOND, y -> y.best(-1));
        CHECK.finds("24: with 40 layers", ofForty(), Check.STATE, y -> y.best(0));
        FortyDips rush = Check.with(3);
        rush.vat(1, 0, 1);
        rush.turn(0, 1);
        rush.dip(0, 3);
        rush.turn(0, 3);
        CHECK.tells("24: 60 at most by any", rush, 0, y -> y.best(0));
    }

    private static void kind() {
        FortyDips x = Check.with(3);
        CHECK.tells("25: kind(0, 3, 0)", x, 4, y -> y.kind(0, 3, 0));
        CHECK.tells("25: a triple by many dips", x, 5, y -> y.kind(0, 3, 40));
        x.vat(0, 2, 0);
        CHECK.tells("25: from nothing", x, 4, y -> y.kind(0, 0, 40));
        CHECK.finds("25: kind(0, 3, 41)", x, Check.BEYOND, y -> y.kind(0, 3, 41));
        CHECK.finds("25: kind(0, 3, -1)", x, Check.BEYOND, y -> y.kind(0, 3, -1));
        CHECK.finds("25: kind(0, 4, 1)", x, Check.BEYOND, y -> y.kind(0, 4, 1));
        CHECK.finds("25: kind(1, 3, 1)", x, Check.BEYOND, y -> y.kind(1, 3, 1));
        FortyDips hot = Check.with(0);
        hot.vat(0, 2, 20);
        for (int i = 0; i < 4; i++) {
            hot.dip(0, 0);
        }
        hot.vat(1, 1, 99);
        // A rush loses 2 by each dip, a paschal 5 up to all, and burns 30 then.
        CHECK.tells("25: before it is too thin", hot, 4, y -> y.kind(0, 1, 1));
        CHECK.tells("25: a rush that loses less", hot, 3, y -> y.kind(0, 1, 4));
        CHECK.tells("25: of several the least", hot, 3, y -> y.kind(0, 1, 5));
        CHECK.tells("25: a paschal of nothing", hot, 4, y -> y.kind(0, 1, 6));
    }

    private static void fires() {
        FortyDips x = new FortyDips();
        CHECK.tells("26: fires(48, 1)", x, 0, y -> y.fires(48, 1));
        CHECK.tells("26: fires(49, 1)", x, 15, y -> y.fires(49, 1));
        CHECK.finds("26: fires(61, 1)", x, Check.NONE, y -> y.fires(61, 1));
        x.vat(2, 1, 80);
        x.vat(2, 3, 1);
        CHECK.tells("26: fire where there was none, none where there was", x, 11, y -> y.fires(55, 1));
        x.let(0, 2);
        CHECK.finds("26: too little wood", x, Check.NONE, y -> y.fires(55, 1));
        x.let(0, 0);
        CHECK.tells("26: of several the least", x, 0, y -> y.fires(10, 1));
        CHECK.tells("26: fires(0, 100)", x, 0, y -> y.fires(0, 100));
        CHECK.finds("26: fires(100, 1)", x, Check.BEYOND, y -> y.fires(100, 1));
        CHECK.finds("26: fires(-1, 1)", x, Check.BEYOND, y -> y.fires(-1, 1));
        CHECK.finds("26: fires(0, 0)", x, Check.BEYOND, y -> y.fires(0, 0));
        CHECK.finds("26: fires(0, 101)", x, Check.BEYOND, y -> y.fires(0, 101));
        for (int i = 0; i < 49; i++) {
            x.hours(200);
        }
        x.hours(100);
        CHECK.tells("26: fires(0, 99), late", x, 0, y -> y.fires(0, 99));
        CHECK.finds("26: fires(0, 100), late", x, Check.STATE, y -> y.fires(0, 100));
        CHECK.finds("26: BEYOND ahead of STATE", x, Check.BEYOND, y -> y.fires(100, 100));
        CHECK.finds("26: STATE ahead of NONE", x, Check.STATE, y -> y.fires(99, 100));
    }

    private static void enough() {
        FortyDips x = new FortyDips();
        CHECK.tells("27: of none", x, 0, y -> y.enough(0));
        x.candle(0);
        x.candle(4);
        x.candle(1);
        x.dip(2, 3);
        CHECK.tells("27: enough(0)", x, 7, y -> y.enough(0));
        CHECK.tells("27: enough(1)", x, 6, y -> y.enough(1));
        CHECK.tells("27: enough(30)", x, 6, y -> y.enough(30));
        CHECK.tells("27: enough(31)", x, 0, y -> y.enough(31));
        CHECK.tells("27: enough(9999)", x, 0, y -> y.enough(9999));
        CHECK.finds("27: enough(10000)", x, Check.BEYOND, y -> y.enough(10000));
        CHECK.finds("27: enough(-1)", x, Check.BEYOND, y -> y.enough(-1));
        for (int i = 0; i < 7; i++) {
            x.candle(4);
        }
        CHECK.tells("27: of ten", x, 1022, y -> y.enough(30));
    }
}
