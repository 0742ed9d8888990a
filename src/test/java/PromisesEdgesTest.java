/** Promises 1 to 27 of the document, piece by piece, at the edges that they name. */
public final class PromisesEdgesTest {
    private static final String[] AT_9799 = {"48 x hours(200)", "hours(199)", "candle(0)"};
    private static final String[] AT_9800 = {"49 x hours(200)", "candle(0)"};
    private static final String[] AT_9999 = {"49 x hours(200)", "hours(199)", "candle(0)"};
    private static final String[] FORTY = {"candle(0)", "vat(0, 1, 0)", "40 x dip(0, 0)"};
    /** A PASCHAL of 40 layers, of 1 gram of tallow and 1833 of wax: 9168 minutes as a CANDLE. */
    private static final String[] LONGEST = {
        "candle(5)", "vat(0, 1, 0)", "vat(0, 2, 1)", "vat(3, 1, 0)", "dip(0, 0)", "39 x dip(0, 3)", "turn(0, 4)"};
    /** All vats at 83 degrees, the second alone with wax in it: two dips take off, the third adds 4. */
    private static final String[] HOT = {
        "vat(0, 1, 83)", "vat(1, 1, 83)", "vat(2, 1, 83)", "vat(3, 1, 83)", "vat(0, 2, 0)", "vat(2, 2, 0)",
        "vat(3, 2, 0)", "vat(1, 0, 1)", "candle(0)"};
    private static Edges e;

    public static void main(String[] args) throws Exception {
        e = new Edges();
        newObject();
        vatOf();
        vat();
        let();
        candle();
        of();
        layer();
        turn();
        as();
        takes();
        dip();
        melt();
        burn();
        hours();
        now();
        warm();
        when();
        takesIn();
        burns();
        fewest();
        ith();
        ways();
        most();
        best();
        kind();
        fires();
        enough();
        e.end("PromisesEdgesTest", 27);
    }

    /** The same call with each of these in the place of its question mark is BEYOND. */
    private static void beyond(String[] before, String call, Object... wrong) throws Exception {
        for (Object w : wrong) {
            e.runOn(before, call.replace("?", w.toString()) + " = BEYOND");
        }
    }

    private static void newObject() throws Exception {
        e.promise(1);
        e.says("All as at first,");
        for (int v = 0; v < 4; v++) {
            e.run("vatOf(" + v + ", 0) = " + (v == 3 ? 1 : 0), "vatOf(" + v + ", 1) = 50", "vatOf(" + v + ", 2) = 2000",
                    "vatOf(" + v + ", 3) = 0", "write(" + v + ", 0, 0) = MISSING");
        }
        e.run("now(0) = 0", "now(1) = 50", "now(2) = 2", "now(3) = 8000", "now(4) = 0", "status(-1) = 0",
                "status(0) = 0", "status(6) = 0");
        e.says("no CANDLES;");
        e.run("count(0) = 0", "count(1) = 0", "enough(0) = 0", "of(0, 0) = BEYOND", "candle(3) = 0");
        e.says("THE TAPE is empty,");
        e.run("count(2) = 0", "wipe() = 0", "text() = -1", "feed(0, 1) = 1");
        e.says("no image is kept.");
        e.run("undo() = NONE", "tear() = 0");
    }

    private static void vatOf() throws Exception {
        e.promise(2);
        e.says("Of a VAT: what 0 1 if of WAX, else 0, 1 WARMTH, 2 what it HOLDS, 3 1 if there is FIRE, else 0.");
        e.run("vat(0, 1, 7)", "vat(0, 2, 77)", "vat(0, 3, 1)", "vatOf(0, 0) = 0", "vatOf(0, 1) = 7",
                "vatOf(0, 2) = 77", "vatOf(0, 3) = 1", "vatOf(3, 0) = 1", "vatOf(3, 3) = 0");
        e.says("BEYOND.");
        beyond(new String[0], "vatOf(?, 0)", -1, 4, "MIN", "MAX");
        beyond(new String[0], "vatOf(0, ?)", -1, 4, "MIN", "MAX");
    }

    private static void vat() throws Exception {
        e.promise(3);
        e.says("It becomes v (what as above; 0 and 3: 0, 1): what it was.");
        e.run("vat(0, 0, 1) = 0", "vat(0, 0, 1) = 1", "vat(0, 0, 0) = 1", "vat(3, 0, 0) = 1", "vatOf(3, 0) = 0");
        e.run("vat(1, 1, 99) = 50", "vat(1, 1, 0) = 99", "vat(1, 1, 1) = 0", "vatOf(1, 1) = 1", "vatOf(0, 1) = 50");
        e.run("vat(2, 2, 99999) = 2000", "vat(2, 2, 0) = 99999", "vat(2, 2, 1) = 0", "vatOf(2, 2) = 1",
                "vatOf(1, 2) = 2000");
        e.run("vat(3, 3, 1) = 0", "vat(3, 3, 1) = 1", "count(3) = 8", "vat(3, 3, 0) = 1", "count(3) = 0");
        e.run("vat(1, 0, 1)", "vatOf(1, 1) = 50", "vatOf(1, 2) = 2000", "vatOf(1, 3) = 0", "vat(1, 1, 1)",
                "vatOf(1, 0) = 1", "vatOf(1, 2) = 2000", "vatOf(1, 3) = 0", "vat(1, 2, 1)", "vatOf(1, 0) = 1",
                "vatOf(1, 1) = 1", "vatOf(1, 3) = 0", "vat(1, 3, 1)", "vatOf(1, 0) = 1", "vatOf(1, 1) = 1",
                "vatOf(1, 2) = 1");
        e.run("vat(3, 3, 1)", "vat(3, 2, 0)", "vat(3, 1, 0)", "vatOf(3, 0) = 1", "vatOf(3, 3) = 1", "vat(3, 0, 0)",
                "vatOf(3, 1) = 0", "vatOf(3, 2) = 0", "vatOf(3, 3) = 1");
        e.says("BEYOND.");
        beyond(new String[0], "vat(?, 1, 1)", -1, 4, "MIN", "MAX");
        beyond(new String[0], "vat(0, ?, 1)", -1, 4, "MIN", "MAX");
        beyond(new String[0], "vat(0, 0, ?)", -1, 2, "MIN", "MAX");
        beyond(new String[0], "vat(0, 1, ?)", -1, 100, "MIN", "MAX");
        beyond(new String[0], "vat(0, 2, ?)", -1, 100000, "MIN", "MAX");
        beyond(new String[0], "vat(0, 3, ?)", -1, 2, "MIN", "MAX");
    }

    private static void let() throws Exception {
        e.promise(4);
        e.says("WOOD (what 0), DRAUGHT (1) becomes v: what it was.");
        e.run("let(0, 9999) = 50", "let(0, 0) = 9999", "let(0, 1) = 0", "now(1) = 1", "now(2) = 2");
        e.run("let(1, 9) = 2", "let(1, 0) = 9", "let(1, 1) = 0", "now(2) = 1", "now(1) = 50");
        e.says("BEYOND.");
        beyond(new String[0], "let(?, 1)", -1, 2, "MIN", "MAX");
        beyond(new String[0], "let(0, ?)", -1, 10000, "MIN", "MAX");
        beyond(new String[0], "let(1, ?)", -1, 10, "MIN", "MAX");
    }

    private static void candle() throws Exception {
        e.promise(5);
        e.says("A new CANDLE without LAYERS: its number.");
        e.run("candle(5) = 0", "candle(0) = 1", "of(0, 0) = 5", "of(1, 0) = 0", "of(0, 1) = 0", "of(0, 2) = 0");
        e.run("image()", "candle(0) = 0", "dip(0, 0)", "dip(0, 3)", "undo()", "candle(2) = 0", "of(0, 0) = 2",
                "of(0, 1) = 0", "of(0, 2) = 0", "of(0, 3) = 0", "count(1) = 0", "now(4) = 0");
        e.says("BEYOND: kind.");
        beyond(new String[0], "candle(?)", -1, 6, "MIN", "MAX");
        beyond(new String[] {"10 x candle(0)"}, "candle(?)", -1, 6);
        e.says("FULL.");
        e.run("9 x candle(0)", "candle(0) = 9", "candle(0) = FULL", "candle(5) = FULL", "status(1) = 2",
                "count(0) = 10");
        e.run("10 x candle(0)", "candle(0) = FULL", "melt(9, 0)", "candle(0) = FULL");
    }

    private static void of() throws Exception {
        e.promise(6);
        e.says("Of a CANDLE: what 0 KIND, 1 how many LAYERS, 2 GRAMS of all, 3 GRAMS of WAX, 4 BURNS.");
        e.run("candle(4)", "of(0, 0) = 4", "of(0, 1) = 0", "of(0, 2) = 0", "of(0, 3) = 0", "of(0, 4) = 30");
        e.run("candle(2)", "dip(0, 0)", "dip(0, 3)", "dip(0, 3)", "of(0, 0) = 2", "of(0, 1) = 3", "of(0, 2) = 15",
                "of(0, 3) = 10", "of(0, 4) = 71");
        e.runOn(LONGEST, "of(0, 1) = 40", "of(0, 2) = 1834", "of(0, 3) = 1833", "of(0, 4) = 10114");
        e.says("BEYOND.");
        beyond(new String[] {"candle(0)"}, "of(?, 0)", -1, 1, 10, "MIN", "MAX");
        beyond(new String[] {"candle(0)"}, "of(0, ?)", -1, 5, "MIN", "MAX");
    }

    private static void layer() throws Exception {
        e.promise(7);
        e.says("Its i-th LAYER (from 0): GRAMS, or less than nothing by so many, if it is of WAX (any number).");
        e.run("candle(0)", "dip(0, 3)", "dip(0, 0)", "vat(3, 2, 1)", "dip(0, 3)", "layer(0, 0) = -6", "layer(0, 1) = 6",
                "layer(0, 2) = -1", "status(-1) = 0");
        e.runOn(LONGEST, "layer(0, 0) = 1", "layer(0, 1) = -28", "layer(0, 39) = -66");
        e.says("BEYOND: candle, i below 0.");
        beyond(new String[] {"candle(0)", "dip(0, 0)"}, "layer(?, 0)", -1, 1, "MIN", "MAX");
        beyond(new String[] {"candle(0)", "dip(0, 0)"}, "layer(0, ?)", -1, "MIN");
        beyond(new String[] {"candle(0)", "dip(0, 0)"}, "layer(1, ?)", 0, 1, -1, "MAX");
        e.says("NONE: it has fewer.");
        e.run("candle(0)", "layer(0, 0) = NONE", "dip(0, 0)", "layer(0, 0) = 6", "layer(0, 1) = NONE",
                "layer(0, 40) = NONE", "layer(0, MAX) = NONE");
        e.runOn(FORTY, "layer(0, 39) = 9", "layer(0, 40) = NONE");
        e.run("candle(0)", "dip(0, 0)", "dip(0, 3)", "burn(0, 30)", "layer(0, 1) = NONE", "melt(0, 0)",
                "layer(0, 0) = NONE");
    }

    private static void turn() throws Exception {
        e.promise(8);
        e.says("A CANDLE becomes one of another KIND: what it was.");
        e.run("candle(0)", "dip(0, 3)", "turn(0, 5) = 0", "turn(0, 5) = 5", "turn(0, 3) = 5", "of(0, 0) = 3",
                "layer(0, 0) = -6", "takes(0, 0) = 3", "turn(0, 4) = 3", "of(0, 4) = 63", "as(0, 2) = 63",
                "as(0, 3) = KIND");
        e.says("BEYOND.");
        beyond(new String[] {"candle(0)"}, "turn(?, 1)", -1, 1, "MIN", "MAX");
        beyond(new String[] {"candle(0)"}, "turn(0, ?)", -1, 6, "MIN", "MAX");
    }

    private static void as() throws Exception {
        e.promise(9);
        e.says("A CANDLE as one of a kind: BURNS, by its own kind, whichever one is named.");
        e.run("candle(4)", "dip(0, 3)", "as(0, 4) = 85", "as(0, 2) = 85", "as(0, 0) = 85");
        e.run("candle(5)", "dip(0, 3)", "as(0, 5) = 30", "as(0, 1) = 30", "as(0, 0) = 30");
        e.run("candle(3)", "3 x dip(0, 3)", "as(0, 3) = 60", "as(0, 0) = 60");
        e.says("BEYOND: no such one, kind.");
        beyond(new String[] {"candle(0)"}, "as(?, 0)", -1, 1, "MIN", "MAX");
        beyond(new String[] {"candle(0)"}, "as(0, ?)", -1, 6, "MIN", "MAX");
        e.says("KIND: it isn't of that kind, nor of one under it.");
        String[] not = {"12345", "2345", "1345", "1245", "135", "234"};
        for (int own = 0; own < 6; own++) {
            for (char kind : not[own].toCharArray()) {
                e.run("candle(" + own + ")", "as(0, " + kind + ") = KIND");
            }
        }
    }

    private static void takes() throws Exception {
        e.promise(10);
        e.says("What a CANDLE TAKES in a VAT as that is now (less than nothing: comes off; any number).");
        e.run("candle(0)", "takes(0, 0) = 6", "vat(0, 1, 29)", "takes(0, 0) = 9", "vat(0, 1, 80)", "takes(0, 0) = -5",
                "vat(0, 1, 60)", "takes(0, 0) = 4", "takes(0, 1) = 6", "status(-1) = 0");
        e.run("candle(1)", "vat(0, 1, 99)", "takes(0, 0) = -15", "vat(1, 2, 1)", "takes(0, 1) = 18", "vat(1, 2, 0)",
                "takes(0, 1) = 18");
        e.runOn(FORTY, "takes(0, 0) = 9");
        e.says("BEYOND.");
        beyond(new String[] {"candle(0)"}, "takes(?, 0)", -1, 1, "MIN", "MAX");
        beyond(new String[] {"candle(0)"}, "takes(0, ?)", -1, 4, "MIN", "MAX");
    }

    private static void dip() throws Exception {
        e.promise(11);
        e.says("A DIP: GRAMS of the CANDLE then.");
        e.run("candle(0)", "candle(1)", "dip(0, 0) = 6", "dip(1, 0) = 18", "dip(0, 3) = 12", "vat(1, 1, 99)",
                "dip(0, 1) = 7", "vat(2, 2, 0)", "dip(0, 2) = 7", "dip(0, 1) = 2", "dip(0, 1) = 0", "dip(0, 1) = 0",
                "vatOf(1, 1) = 91", "vatOf(1, 2) = 2012", "of(1, 2) = 18");
        e.says("BEYOND.");
        beyond(new String[] {"candle(0)"}, "dip(?, 0)", -1, 1, "MIN", "MAX");
        beyond(new String[] {"candle(0)"}, "dip(0, ?)", -1, 4, "MIN", "MAX");
        beyond(FORTY, "dip(0, ?)", -1, 4);
        e.says("STATE: it has 40 LAYERS.");
        e.run("candle(0)", "39 x dip(0, 0)", "dip(0, 1) = 324", "of(0, 1) = 40", "dip(0, 0) = STATE",
                "vat(1, 1, 99)", "dip(0, 1) = STATE", "vat(2, 2, 0)", "dip(0, 2) = STATE", "vatOf(1, 1) = 99");
        e.run("candle(0)", "40 x dip(0, 0)", "turn(0, 5)", "dip(0, 0) = STATE", "burn(0, 27)", "dip(0, 0) = 384");
    }

    private static void melt() throws Exception {
        e.promise(12);
        e.says("A CANDLE is melted into a VAT: all its LAYERS are gone,");
        e.run("candle(0)", "candle(4)", "dip(0, 0)", "dip(0, 3)", "dip(1, 3)", "melt(0, 1) = 12", "of(0, 1) = 0",
                "of(0, 2) = 0", "of(0, 3) = 0", "of(0, 4) = 0", "layer(0, 0) = NONE", "count(0) = 2", "count(1) = 1",
                "of(0, 0) = 0", "vatOf(1, 1) = 50", "vatOf(1, 0) = 0");
        e.run("candle(4)", "melt(0, 0) = 0", "of(0, 4) = 30", "vatOf(0, 2) = 2000");
        e.runOn(FORTY, "melt(0, 0) = 360", "of(0, 1) = 0", "dip(0, 1) = 6");
        e.says("the VAT HOLDS so much more (99999 at most): GRAMS.");
        e.run("candle(0)", "dip(0, 0)", "melt(0, 3) = 6", "vatOf(3, 2) = 2006", "vatOf(3, 0) = 1");
        e.run("candle(0)", "dip(0, 0)", "vat(1, 2, 99993)", "melt(0, 1) = 6", "vatOf(1, 2) = 99999");
        e.run("candle(0)", "dip(0, 0)", "vat(1, 2, 99994)", "melt(0, 1) = 6", "vatOf(1, 2) = 99999", "of(0, 2) = 0");
        e.run("candle(0)", "dip(0, 0)", "vat(1, 2, 99999)", "melt(0, 1) = 6", "vatOf(1, 2) = 99999",
                "melt(0, 1) = 0");
        e.says("BEYOND.");
        beyond(new String[] {"candle(0)", "dip(0, 0)"}, "melt(?, 0)", -1, 1, "MIN", "MAX");
        beyond(new String[] {"candle(0)", "dip(0, 0)"}, "melt(0, ?)", -1, 4, "MIN", "MAX");
    }

    private static void burn() throws Exception {
        e.promise(13);
        e.says("It burns m minutes (1 to 9999): from the last LAYER on GRAMS go, for 3 minutes (TALLOW) or 5 (WAX) each,");
        e.run("candle(0)", "dip(0, 0)", "burn(0, 3) = 5", "layer(0, 0) = 5", "burn(0, 6) = 3", "burn(0, 9) = 0",
                "of(0, 1) = 0");
        e.run("candle(0)", "dip(0, 3)", "burn(0, 5) = 5", "layer(0, 0) = -5", "of(0, 3) = 5", "burn(0, 25) = 0",
                "of(0, 3) = 0", "of(0, 1) = 0");
        e.run("candle(0)", "dip(0, 0)", "dip(0, 3)", "dip(0, 0)", "burn(0, 20) = 12", "burn(0, 5) = 11",
                "of(0, 1) = 2", "layer(0, 1) = -5", "burn(0, 9999) = 0", "of(0, 1) = 0", "burn(0, 9999) = 0");
        e.run("candle(0)", "vat(0, 0, 1)", "vat(3, 0, 0)", "dip(0, 0)", "dip(0, 3)", "burn(0, 28) = 4");
        e.run("candle(1)", "dip(0, 0)", "burn(0, 3) = 17", "turn(0, 4)", "burn(0, 3) = 16", "turn(0, 3)",
                "burn(0, 3) = 15");
        e.runOn(LONGEST, "turn(0, 0)", "of(0, 4) = 9168", "burn(0, 9165) = 1", "burn(0, 9999) = 0");
        e.says("as long as m is enough for the next one: GRAMS left.");
        e.run("candle(0)", "dip(0, 0)", "burn(0, 1) = 6", "burn(0, 2) = 6", "burn(0, 2) = 6", "burn(0, 5) = 5",
                "burn(0, 8) = 3");
        e.run("candle(0)", "dip(0, 3)", "burn(0, 4) = 6", "burn(0, 9) = 5", "burn(0, 10) = 3");
        e.run("candle(0)", "vat(3, 2, 1)", "dip(0, 3)", "burn(0, 4) = 1", "burn(0, 5) = 0");
        e.run("candle(0)", "dip(0, 3)", "dip(0, 0)", "burn(0, 22) = 6", "of(0, 1) = 1", "layer(0, 0) = -6");
        e.run("candle(0)", "dip(0, 3)", "dip(0, 0)", "burn(0, 23) = 5", "layer(0, 0) = -5");
        e.run("candle(0)", "dip(0, 0)", "dip(0, 3)", "burn(0, 29) = 7", "layer(0, 1) = -1", "layer(0, 0) = 6");
        e.run("candle(0)", "dip(0, 0)", "dip(0, 3)", "burn(0, 32) = 6", "burn(0, 33) = 0");
        e.run("candle(0)", "burn(0, 1) = 0", "burn(0, 9999) = 0", "of(0, 1) = 0");
        e.says("BEYOND.");
        beyond(new String[] {"candle(0)", "dip(0, 0)"}, "burn(?, 3)", -1, 1, "MIN", "MAX");
        beyond(new String[] {"candle(0)", "dip(0, 0)"}, "burn(0, ?)", 0, -1, 10000, "MIN", "MAX");
    }

    private static void hours() throws Exception {
        e.promise(14);
        e.says("n HOURS go (1 to 200): WOOD that is burnt.");
        e.run("hours(1) = 0", "hours(200) = 0", "now(0) = 201");
        e.run("vat(0, 3, 1)", "vat(2, 3, 1)", "hours(1) = 2", "hours(3) = 6", "hours(200) = 42", "hours(200) = 0",
                "now(1) = 0");
        e.run("vat(0, 3, 1)", "let(0, 9999)", "hours(200) = 200", "now(1) = 9799", "vatOf(0, 1) = 99");
        e.says("BEYOND.");
        beyond(new String[0], "hours(?)", 0, -1, 201, "MIN", "MAX");
        beyond(AT_9999, "hours(?)", 0, 201);
        e.says("STATE: HOUR would be above 9999.");
        e.runOn(AT_9800, "hours(200) = STATE", "hours(199) = 0", "now(0) = 9999", "hours(1) = STATE");
        e.runOn(AT_9799, "hours(200) = 0", "now(0) = 9999", "hours(1) = STATE", "hours(200) = STATE");
    }

    private static void now() throws Exception {
        e.promise(15);
        e.says("What 0 HOUR, 1 WOOD, 2 DRAUGHT, 3 GRAMS in all VATS, 4 GRAMS of all CANDLES.");
        e.run("now(4) = 0", "candle(0)", "candle(1)", "now(4) = 0", "dip(0, 0)", "dip(1, 3)", "hours(3)", "let(0, 7)",
                "let(1, 4)", "now(0) = 3", "now(1) = 7", "now(2) = 4", "now(3) = 7976", "now(4) = 24");
        e.run("vat(0, 2, 99999)", "vat(1, 2, 99999)", "vat(2, 2, 99999)", "vat(3, 2, 99999)", "now(3) = 399996");
        e.run("vat(0, 2, 0)", "vat(1, 2, 0)", "vat(2, 2, 0)", "vat(3, 2, 0)", "now(3) = 0", "vat(3, 2, 1)",
                "now(3) = 1");
        e.says("BEYOND.");
        beyond(new String[0], "now(?)", -1, 5, "MIN", "MAX");
    }

    private static void warm() throws Exception {
        e.promise(16);
        e.says("WARMTH of a VAT ON n HOURS (0 to 200).");
        e.run("warm(0, 0) = 50", "warm(0, 1) = 48", "warm(0, 24) = 2", "warm(0, 25) = 0", "warm(0, 26) = 0",
                "warm(3, 200) = 0");
        e.run("vat(1, 3, 1)", "let(0, 196)", "let(1, 1)", "warm(1, 1) = 60", "warm(1, 5) = 99", "warm(1, 196) = 99",
                "warm(1, 199) = 96", "warm(1, 200) = 95");
        e.says("BEYOND.");
        beyond(new String[0], "warm(?, 1)", -1, 4, "MIN", "MAX");
        beyond(new String[0], "warm(0, ?)", -1, 201, "MIN", "MAX");
        beyond(AT_9999, "warm(0, ?)", -1, 201);
        e.says("STATE: HOUR would be above 9999.");
        e.runOn(AT_9800, "warm(0, 199) = 0", "warm(0, 200) = STATE");
        e.runOn(AT_9799, "warm(0, 200) = 0", "hours(1)", "warm(0, 200) = STATE");
        e.runOn(AT_9999, "vat(0, 1, 7)", "warm(0, 0) = 7", "warm(0, 1) = STATE");
    }

    private static void when() throws Exception {
        e.promise(17);
        e.says("In how many HOURS (0 to 200) ON WARMTH of a VAT is v or more (0 to 99) first.");
        e.run("when(0, 0) = 0", "when(0, 50) = 0", "vat(0, 3, 1)", "when(0, 51) = 1", "when(0, 60) = 1",
                "when(0, 61) = 2", "when(0, 99) = 5");
        e.run("vat(0, 1, 0)", "vat(1, 1, 0)", "vat(0, 3, 1)", "vat(1, 3, 1)", "let(0, 5)", "when(0, 30) = 3",
                "when(1, 20) = 2", "when(1, 21) = NONE", "when(1, 0) = 0");
        e.says("BEYOND.");
        beyond(new String[0], "when(?, 0)", -1, 4, "MIN", "MAX");
        beyond(new String[0], "when(0, ?)", -1, 100, "MIN", "MAX");
        beyond(AT_9800, "when(0, ?)", -1, 100);
        e.says("STATE: HOUR is above 9799.");
        e.runOn(AT_9799, "when(0, 0) = 0", "when(0, 1) = NONE", "hours(1)", "when(0, 0) = STATE",
                "when(0, 1) = STATE");
        e.runOn(AT_9999, "when(0, 0) = STATE");
        e.says("NONE.");
        e.run("when(0, 51) = NONE", "when(0, 99) = NONE", "vat(0, 3, 1)", "let(0, 4)", "when(0, 90) = 4",
                "when(0, 91) = NONE", "let(0, 0)", "when(0, 51) = NONE");
    }

    private static void takesIn() throws Exception {
        e.promise(18);
        e.says("In how many HOURS (0 to 200) ON a CANDLE would TAKE v GRAMS or more (1 to 99) in a VAT first.");
        e.run("candle(0)", "takesIn(0, 0, 1) = 0", "takesIn(0, 0, 6) = 0", "takesIn(0, 0, 7) = 11",
                "takesIn(0, 0, 9) = 11");
        e.run("candle(0)", "vat(1, 1, 99)", "let(1, 1)", "takesIn(0, 1, 1) = 20", "takesIn(0, 1, 4) = 20",
                "takesIn(0, 1, 5) = 40", "takesIn(0, 1, 6) = 40", "takesIn(0, 1, 7) = 70", "takesIn(0, 1, 9) = 70");
        e.run("candle(0)", "vat(0, 3, 1)", "vat(0, 1, 99)", "let(1, 1)", "let(0, 180)", "takesIn(0, 0, 4) = 200",
                "let(0, 181)", "takesIn(0, 0, 4) = NONE");
        e.run("candle(5)", "40 x dip(0, 0)", "vat(0, 1, 31)", "takesIn(0, 0, 58) = 0", "takesIn(0, 0, 67) = 1");
        e.says("BEYOND.");
        beyond(new String[] {"candle(0)"}, "takesIn(?, 0, 1)", -1, 1, "MIN", "MAX");
        beyond(new String[] {"candle(0)"}, "takesIn(0, ?, 1)", -1, 4, "MIN", "MAX");
        beyond(new String[] {"candle(0)"}, "takesIn(0, 0, ?)", 0, -1, 100, "MIN", "MAX");
        beyond(AT_9800, "takesIn(0, 0, ?)", 0, 100);
        e.says("STATE likewise.");
        e.runOn(AT_9799, "takesIn(0, 0, 9) = 0", "takesIn(0, 0, 10) = NONE", "hours(1)", "takesIn(0, 0, 9) = STATE",
                "takesIn(0, 0, 10) = STATE");
        e.says("NONE.");
        e.run("candle(0)", "takesIn(0, 0, 10) = NONE", "takesIn(0, 0, 99) = NONE", "vat(0, 1, 80)", "let(1, 0)",
                "takesIn(0, 0, 1) = NONE", "vat(0, 1, 79)", "takesIn(0, 0, 1) = 0");
        e.run("candle(5)", "40 x dip(0, 0)", "takesIn(0, 0, 67) = 0", "takesIn(0, 0, 68) = NONE");
    }

    private static void burns() throws Exception {
        e.promise(19);
        e.says("What a CANDLE BURNS behind a ROW of n DIPS (0 to 40) into one VAT (nothing changes).");
        e.run("candle(0)", "burns(0, 3, 0) = 0", "burns(0, 3, 1) = 30", "burns(0, 3, 11) = 330", "burns(0, 3, 12) = 375",
                "burns(0, 3, 39) = 1590", "burns(0, 3, 40) = 1635", "of(0, 1) = 0", "vatOf(3, 1) = 50",
                "vatOf(3, 2) = 2000");
        e.run("candle(4)", "burns(0, 3, 0) = 30", "vat(3, 2, 0)", "burns(0, 3, 40) = 30");
        e.run("candle(0)", "dip(0, 0)", "vat(1, 1, 99)", "burns(0, 1, 1) = 3", "burns(0, 1, 2) = 0",
                "burns(0, 1, 11) = 12", "burns(0, 1, 10) = 0");
        e.says("BEYOND.");
        beyond(new String[] {"candle(0)"}, "burns(?, 0, 1)", -1, 1, "MIN", "MAX");
        beyond(new String[] {"candle(0)"}, "burns(0, ?, 1)", -1, 4, "MIN", "MAX");
        beyond(new String[] {"candle(0)"}, "burns(0, 0, ?)", -1, 41, "MIN", "MAX");
    }

    private static void fewest() throws Exception {
        e.promise(20);
        e.says("The fewest DIPS (0 to 6) of a ROW, behind which it BURNS v minutes or more (0 to 9999).");
        e.run("candle(0)", "fewest(0, 0) = 0", "fewest(0, 1) = 1", "fewest(0, 30) = 1", "fewest(0, 31) = 2",
                "fewest(0, 60) = 2", "fewest(0, 61) = 3", "fewest(0, 150) = 5", "fewest(0, 151) = 6",
                "fewest(0, 180) = 6");
        e.run("candle(0)", "dip(0, 3)", "fewest(0, 30) = 0", "fewest(0, 31) = 1");
        e.runOn(HOT, "fewest(0, 1) = 3", "fewest(0, 20) = 3", "fewest(0, 21) = 4", "fewest(0, 80) = 6",
                "fewest(0, 81) = NONE");
        e.runOn(LONGEST, "fewest(0, 9999) = 0", "fewest(0, 10000) = BEYOND");
        e.says("BEYOND.");
        beyond(new String[] {"candle(0)"}, "fewest(?, 0)", -1, 1, "MIN", "MAX");
        beyond(new String[] {"candle(0)"}, "fewest(0, ?)", -1, 10000, "MIN", "MAX");
        e.says("NONE: not by six.");
        e.run("candle(0)", "fewest(0, 180) = 6", "fewest(0, 181) = NONE", "fewest(0, 9999) = NONE");
        e.runOn(FORTY, "fewest(0, 1080) = 0", "fewest(0, 1081) = NONE");
        e.run("candle(3)", "fewest(0, 60) = 3", "fewest(0, 61) = NONE");
    }

    private static void ith() throws Exception {
        e.promise(21);
        e.says("The i-th VAT (from 0) of the first such ROW of so few (by numbers).");
        e.run("candle(0)", "ith(0, 18, 0) = 0", "ith(0, 19, 0) = 3", "ith(0, 30, 0) = 3", "ith(0, 31, 0) = 0",
                "ith(0, 31, 1) = 0", "ith(0, 37, 0) = 0", "ith(0, 37, 1) = 3", "ith(0, 49, 0) = 3", "ith(0, 49, 1) = 3");
        e.run("candle(0)", "ith(0, 169, 0) = 3", "ith(0, 169, 5) = 3", "ith(0, 168, 0) = 0", "ith(0, 168, 1) = 3",
                "ith(0, 168, 5) = 3", "ith(0, 156, 1) = 0", "ith(0, 156, 2) = 3");
        e.runOn(HOT, "ith(0, 20, 0) = 1", "ith(0, 20, 1) = 1", "ith(0, 20, 2) = 1");
        e.says("BEYOND: candle, v, i (0 to 5).");
        beyond(new String[] {"candle(0)"}, "ith(?, 1, 0)", -1, 1, "MIN", "MAX");
        beyond(new String[] {"candle(0)"}, "ith(0, ?, 0)", -1, 10000, "MIN", "MAX");
        beyond(new String[] {"candle(0)"}, "ith(0, 1, ?)", -1, 6, "MIN", "MAX");
        beyond(new String[] {"candle(0)"}, "ith(0, 9999, ?)", -1, 6);
        e.says("NONE: none, or no i-th.");
        e.run("candle(0)", "ith(0, 181, 0) = NONE", "ith(0, 9999, 5) = NONE", "ith(0, 0, 0) = NONE",
                "ith(0, 30, 1) = NONE", "ith(0, 30, 5) = NONE", "ith(0, 60, 1) = 3", "ith(0, 60, 2) = NONE",
                "ith(0, 180, 5) = 3");
    }

    private static void ways() throws Exception {
        e.promise(22);
        e.says("In how many ROWS of n DIPS (0 to 6) it BURNS just v minutes then.");
        e.run("candle(0)", "ways(0, 0, 0) = 1", "ways(0, 1, 0) = 0", "ways(0, 18, 1) = 3", "ways(0, 17, 1) = 0",
                "ways(0, 19, 1) = 0", "ways(0, 0, 1) = 0", "ways(0, 108, 6) = 729", "ways(0, 120, 6) = 1458",
                "ways(0, 180, 6) = 1", "ways(0, 181, 6) = 0");
        e.runOn(LONGEST, "ways(0, 9999, 0) = 0", "burn(0, 105)", "of(0, 4) = 9999", "ways(0, 9999, 0) = 1",
                "ways(0, 9999, 6) = 4096");
        e.says("BEYOND.");
        beyond(new String[] {"candle(0)"}, "ways(?, 0, 0)", -1, 1, "MIN", "MAX");
        beyond(new String[] {"candle(0)"}, "ways(0, ?, 0)", -1, 10000, "MIN", "MAX");
        beyond(new String[] {"candle(0)"}, "ways(0, 0, ?)", -1, 7, "MIN", "MAX");
        beyond(LONGEST, "ways(0, ?, 0)", 10000, 10114);
    }

    private static void most() throws Exception {
        e.promise(23);
        e.says("The greatest that it BURNS behind a ROW of n DIPS (0 to 6).");
        e.run("candle(0)", "most(0, 0) = 0", "most(0, 1) = 30", "most(0, 6) = 180");
        e.run("candle(4)", "most(0, 0) = 30", "vat(0, 2, 0)", "vat(1, 2, 0)", "vat(2, 2, 0)", "vat(3, 2, 0)",
                "most(0, 6) = 30");
        e.runOn(HOT, "most(0, 1) = 0", "most(0, 2) = 0", "most(0, 3) = 20", "most(0, 6) = 80");
        e.runOn(HOT, "vat(1, 1, 50)", "dip(0, 1)", "vat(1, 1, 99)", "most(0, 0) = 30", "most(0, 1) = 5");
        e.runOn(LONGEST, "most(0, 6) = 10114");
        e.says("BEYOND.");
        beyond(new String[] {"candle(0)"}, "most(?, 0)", -1, 1, "MIN", "MAX");
        beyond(new String[] {"candle(0)"}, "most(0, ?)", -1, 7, "MIN", "MAX");
    }

    private static void best() throws Exception {
        e.promise(24);
        e.says("The VAT into which a DIP makes it BURN longest;");
        e.run("candle(0)", "best(0) = 3", "vat(3, 2, 3)", "vat(1, 1, 29)", "best(0) = 1", "vat(2, 0, 1)",
                "best(0) = 2", "vat(2, 1, 80)", "best(0) = 1", "vat(3, 2, 6)", "best(0) = 3");
        e.runOn(HOT, "vat(1, 1, 50)", "dip(0, 1)", "vat(1, 1, 99)", "vat(2, 1, 79)", "best(0) = 2");
        e.says("of several the least.");
        e.run("candle(0)", "vat(3, 2, 0)", "best(0) = 0", "vat(0, 2, 0)", "best(0) = 1", "vat(1, 1, 99)",
                "best(0) = 2");
        e.runOn(HOT, "best(0) = 0");
        e.run("candle(0)", "vat(2, 0, 1)", "best(0) = 2");
        e.run("candle(3)", "6 x dip(0, 3)", "of(0, 4) = 60", "best(0) = 0");
        e.says("BEYOND.");
        beyond(new String[] {"candle(0)"}, "best(?)", -1, 1, "MIN", "MAX");
        e.says("STATE: it has 40 LAYERS.");
        e.runOn(FORTY, "best(0) = STATE", "burn(0, 27)", "best(0) = 3", "dip(0, 0)", "best(0) = STATE");
    }

    private static void kind() throws Exception {
        String[] thin = {"candle(0)", "vat(0, 2, 20)", "4 x dip(0, 0)", "vat(1, 1, 99)"};
        e.promise(25);
        e.says("The KIND as one of which it BURNS longest behind a ROW of n DIPS (0 to 40) into one VAT;");
        e.run("candle(0)", "kind(0, 3, 0) = 4", "kind(0, 3, 1) = 4", "kind(0, 3, 40) = 5", "of(0, 0) = 0",
                "of(0, 1) = 0", "vatOf(3, 1) = 50");
        e.run("candle(5)", "vat(3, 2, 0)", "kind(0, 3, 40) = 4");
        e.runOn(thin, "kind(0, 1, 1) = 4", "kind(0, 1, 6) = 4");
        e.says("of several the least.");
        // By four dips a rush has 12 grams, 36 minutes; by five 10, 30, as many as a paschal of nothing.
        e.runOn(thin, "kind(0, 1, 4) = 3", "kind(0, 1, 5) = 3");
        e.says("BEYOND.");
        beyond(new String[] {"candle(0)"}, "kind(?, 0, 1)", -1, 1, "MIN", "MAX");
        beyond(new String[] {"candle(0)"}, "kind(0, ?, 1)", -1, 4, "MIN", "MAX");
        beyond(new String[] {"candle(0)"}, "kind(0, 0, ?)", -1, 41, "MIN", "MAX");
    }

    private static void fires() throws Exception {
        e.promise(26);
        e.says("VATS that should have FIRE (a set) so that all four have WARMTH of v or more (0 to 99) "
                + "ON n HOURS (1 to 100) with most WOOD left;");
        e.run("fires(0, 1) = 0", "fires(48, 1) = 0", "fires(49, 1) = 15", "fires(60, 1) = 15", "fires(61, 1) = NONE",
                "fires(0, 100) = 0", "let(0, 9999)", "fires(99, 100) = 15", "fires(99, 5) = 15", "fires(99, 4) = NONE");
        e.run("vat(2, 1, 80)", "vat(2, 3, 1)", "fires(55, 1) = 11", "fires(78, 1) = NONE", "count(3) = 4");
        e.run("vat(0, 1, 99)", "vat(1, 1, 99)", "vat(2, 1, 99)", "fires(60, 1) = 8", "vat(3, 1, 99)",
                "vat(0, 1, 50)", "fires(60, 1) = 1", "fires(97, 1) = NONE", "vat(0, 1, 98)", "fires(97, 1) = 1",
                "fires(96, 1) = 0", "fires(98, 1) = 15", "fires(99, 1) = 15");
        e.run("let(0, 4)", "fires(60, 1) = 15", "let(0, 3)", "fires(60, 1) = NONE", "fires(48, 1) = 0");
        e.says("of several the least.");
        e.run("let(0, 0)", "fires(48, 1) = 0", "fires(0, 100) = 0");
        // Wood for one hour of one vat: any of the sets with a fire burns it, and no vat must be 50 then.
        e.run("let(0, 1)", "let(1, 0)", "vat(0, 1, 40)", "fires(50, 1) = 1", "fires(50, 2) = 1");
        e.run("let(0, 1)", "let(1, 0)", "vat(1, 1, 40)", "fires(50, 1) = 2", "fires(50, 100) = 2");
        e.says("BEYOND.");
        beyond(new String[0], "fires(?, 1)", -1, 100, "MIN", "MAX");
        beyond(new String[0], "fires(0, ?)", 0, -1, 101, "MIN", "MAX");
        beyond(AT_9999, "fires(?, 1)", -1, 100);
        beyond(AT_9999, "fires(0, ?)", 0, 101);
        e.says("STATE: HOUR would be above 9999.");
        e.runOn(AT_9800, "hours(99)", "fires(0, 100) = 0", "hours(1)", "fires(0, 100) = STATE", "fires(0, 99) = 0",
                "fires(99, 100) = STATE");
        e.runOn(AT_9999, "fires(0, 1) = STATE");
        e.says("NONE.");
        e.run("fires(99, 1) = NONE", "let(0, 0)", "fires(49, 1) = NONE", "let(0, 9999)", "let(1, 0)", "vat(0, 1, 0)",
                "fires(51, 5) = NONE", "fires(50, 5) = 1");
    }

    private static void enough() throws Exception {
        e.promise(27);
        e.says("CANDLES that BURN v minutes (0 to 9999) or more, as a set.");
        e.run("enough(0) = 0", "enough(9999) = 0", "candle(0)", "enough(0) = 1", "enough(1) = 0", "candle(4)",
                "candle(1)", "dip(2, 3)", "enough(0) = 7", "enough(1) = 6", "enough(30) = 6", "enough(31) = 0");
        e.runOn(LONGEST, "9 x candle(0)", "enough(0) = 1023", "enough(9999) = 1", "burn(0, 105)", "enough(9999) = 1",
                "burn(0, 5)", "enough(9999) = 0");
        e.run("10 x candle(4)", "melt(0, 0)", "enough(30) = 1023", "turn(9, 0)", "enough(30) = 511");
        e.says("BEYOND.");
        beyond(new String[] {"candle(0)"}, "enough(?)", -1, 10000, "MIN", "MAX");
    }
}
