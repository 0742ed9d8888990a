import java.util.ArrayList;
import java.util.List;

/** The 'Terms' of the document, piece by piece, at the edges that they name. */
public final class TermsEdgesTest {
    private static final String[] BEHIND_ALL = {"49 x hours(200)", "hours(199)"};
    private static final String[] FORTY = {"candle(0)", "vat(0, 1, 0)", "40 x dip(0, 0)"};
    /** Two candles, three sheets, an image and a tape. */
    private static final String[] RICH = {
        "candle(5)", "dip(0, 3)", "dip(0, 0)", "candle(0)", "sheet(0, 8, 3)", "write(0, 0, 6)", "write(0, 1, -6)",
        "sheet(1, 16, 2)", "write(1, 1, 700)", "sheet(2, 64, 7)", "vat(1, 3, 1)", "hours(2)", "image()",
        "dip(0, 1)", "hours(1)", "tape: star; wood 7"};
    private static final String[] BAD_VATS = {"-1", "4", "MIN", "MAX"};
    private static final int[] WARMTHS = {0, 29, 30, 59, 60, 79, 80, 99};
    private static Edges e;

    public static void main(String[] args) throws Exception {
        e = new Edges();
        e.terms();
        findings();
        order();
        aFindingChangesNothing();
        quotientsAndSets();
        vats();
        woodDraughtHour();
        candles();
        layers();
        takes();
        dipThatAdds();
        dipThatTakesOff();
        dipCools();
        burns();
        anHour();
        tokens();
        items();
        itemVat();
        itemDip();
        itemWoodDraught();
        faults();
        rows();
        sheets();
        e.end("TermsEdgesTest", 0);
    }

    private static void findings() throws Exception {
        e.says("FINDINGS are answers below -1000000000: -1000000001 BEYOND, -1000000002 FULL, -1000000003 KIND, "
                + "-1000000004 NONE, -1000000005 STATE, -1000000006 MISSING, -1000000007 SIZE (in longs, too).");
        e.run("candle(6) = -1000000001", "10 x candle(0)", "candle(0) = -1000000002", "as(0, 1) = -1000000003",
                "layer(0, 0) = -1000000004", "lays(0, 0) = -1000000006", "sheet(0, 8, -1) = -1000000007");
        e.runOn(BEHIND_ALL, "hours(1) = -1000000005");
        e.run("write(4, 0, 0) = -1000000001", "write(0, 0, 0) = -1000000006", "status(0) = 1", "status(5) = 1");
    }

    private static void order() throws Exception {
        e.says("Each act tells its findings in the order in which they are asked;");
        e.run("10 x candle(0)", "candle(6) = BEYOND", "candle(0) = FULL");
        e.run("candle(0)", "layer(0, -1) = BEYOND", "layer(0, 0) = NONE", "layer(1, 0) = BEYOND");
        e.run("candle(0)", "as(0, 6) = BEYOND", "as(1, 1) = BEYOND", "as(0, 1) = KIND");
        e.runOn(FORTY, "dip(0, 4) = BEYOND", "dip(1, 0) = BEYOND", "dip(0, 0) = STATE", "best(1) = BEYOND",
                "best(0) = STATE");
        e.runOn(BEHIND_ALL, "hours(201) = BEYOND", "hours(1) = STATE", "warm(4, 1) = BEYOND", "warm(0, 201) = BEYOND",
                "warm(0, 1) = STATE", "when(4, 0) = BEYOND", "when(0, 100) = BEYOND", "when(0, 99) = STATE");
        e.runOn(BEHIND_ALL, "takesIn(0, 0, 9) = BEYOND", "candle(0)", "takesIn(0, 4, 9) = BEYOND",
                "takesIn(0, 0, 100) = BEYOND", "takesIn(0, 0, 99) = STATE");
        e.runOn(BEHIND_ALL, "fires(100, 1) = BEYOND", "fires(0, 101) = BEYOND", "fires(99, 1) = STATE");
        e.run("candle(0)", "fewest(0, 10000) = BEYOND", "fewest(0, 9999) = NONE", "ith(0, 9999, 6) = BEYOND",
                "ith(0, 9999, 5) = NONE");
        e.run("30 x feed(0, 4)", "feed(0, 5) = BEYOND", "feed(0, 1) = FULL");
        e.run("sheet(4, 8, -1) = BEYOND", "sheet(0, 7, -1) = BEYOND", "sheet(0, 8, -1) = SIZE",
                "sheet(0, 7, 41) = BEYOND");
        e.run("write(4, -1, 0) = BEYOND", "write(0, -1, 0) = MISSING", "sheet(0, 8, 1)", "write(0, -1, 0) = BEYOND");
        e.run("copy(0, 0, 4, 0, 0) = BEYOND", "copy(0, -1, 1, -1, -1) = MISSING", "sheet(0, 8, 1)",
                "copy(0, -1, 1, 0, 1) = MISSING", "copy(1, -1, 0, 0, 1) = MISSING", "sheet(1, 16, 1)",
                "copy(0, -1, 1, 0, 1) = KIND", "sheet(1, 8, 1)", "copy(0, -1, 1, 0, 1) = BEYOND");
        e.run("lays(4, 0) = BEYOND", "lays(0, 0) = MISSING", "sheet(0, 8, 1)", "lays(0, 0) = BEYOND");
        e.run("show(4, 0) = BEYOND", "show(0, 0) = MISSING", "sheet(0, 8, 1)", "show(0, 0) = BEYOND");
        e.run("read(4, 6) = BEYOND", "read(0, 6) = MISSING", "sheet(0, 8, 7)", "read(0, 6) = BEYOND",
                "read(0, 0) = SIZE", "sheet(0, 8, 6)", "read(0, 0) = NONE");
    }

    private static void aFindingChangesNothing() throws Exception {
        e.says("one that answers a finding changes nothing but status().");
        e.runOn(RICH, "vatOf(4, 0) = BEYOND", "vat(0, 1, 100) = BEYOND", "vat(4, 1, 7) = BEYOND",
                "let(0, 10000) = BEYOND", "let(1, 10) = BEYOND", "candle(6) = BEYOND", "of(0, 5) = BEYOND",
                "layer(0, -1) = BEYOND", "layer(0, 9) = NONE", "turn(0, 6) = BEYOND", "as(0, 6) = BEYOND",
                "as(0, 2) = KIND", "takes(0, 4) = BEYOND", "dip(0, 4) = BEYOND", "melt(0, 4) = BEYOND",
                "burn(0, 0) = BEYOND");
        e.runOn(RICH, "hours(0) = BEYOND", "hours(201) = BEYOND", "now(5) = BEYOND", "warm(0, 201) = BEYOND",
                "when(0, 100) = BEYOND", "when(0, 99) = NONE", "takesIn(0, 0, 100) = BEYOND",
                "takesIn(0, 0, 99) = NONE", "burns(0, 0, 41) = BEYOND", "fewest(0, 10000) = BEYOND",
                "fewest(0, 9999) = NONE", "ith(0, 0, 6) = BEYOND", "ith(0, 0, 0) = NONE", "ways(0, 0, 7) = BEYOND",
                "most(0, 7) = BEYOND", "best(2) = BEYOND", "kind(0, 0, 41) = BEYOND", "fires(100, 1) = BEYOND",
                "fires(99, 1) = NONE", "enough(10000) = BEYOND");
        e.runOn(RICH, "feed(0, 5) = BEYOND", "sheet(0, 32, 1) = BEYOND", "sheet(0, 8, -1) = SIZE",
                "sheet(0, 0, 41) = BEYOND", "write(0, 3, 1) = BEYOND", "write(3, 0, 1) = MISSING",
                "copy(0, 0, 4, 0, 1) = BEYOND", "copy(0, 0, 3, 0, 1) = MISSING", "copy(0, 0, 1, 0, 1) = KIND",
                "copy(0, 0, 0, 2, 2) = BEYOND", "lays(3, 0) = MISSING", "lays(0, 2) = BEYOND", "show(3, 0) = MISSING",
                "show(0, 2) = BEYOND", "read(3, 0) = MISSING", "read(0, 6) = BEYOND", "read(2, 0) = SIZE",
                "read(0, 0) = NONE", "count(4) = BEYOND", "status(7) = BEYOND");
        e.runOn(RICH, "8 x candle(0)", "candle(0) = FULL", "27 x feed(0, 4)", "feed(-1, 4) = FULL", "feed(-1, 1) = FULL");
        e.runOn(RICH, "tear()", "undo() = NONE");
        e.runOn(RICH, "sheet(3, 8, 40)", "lays(3, 1)", "dip(1, 0) = STATE", "best(1) = STATE");
        e.runOn(RICH, "49 x hours(200)", "hours(197) = STATE", "warm(0, 197) = STATE", "when(0, 0) = STATE",
                "takesIn(0, 0, 1) = STATE", "hours(196)", "fires(0, 1) = STATE");
    }

    private static void quotientsAndSets() throws Exception {
        e.says("Quotients are cut.");
        e.run("candle(1)", "vat(3, 2, 1)", "dip(0, 3) = 1", "of(0, 4) = 1", "turn(0, 2)", "of(0, 4) = 5");
        e.run("candle(2)", "vat(0, 2, 3)", "dip(0, 0) = 3", "of(0, 4) = 9", "vat(0, 2, 3)", "dip(0, 0) = 6",
                "of(0, 4) = 19");
        e.run("candle(3)", "dip(0, 0)", "vat(1, 1, 0)", "takes(0, 1) = 4", "vat(1, 1, 99)", "takes(0, 1) = -2");
        e.says("Sets are told by bits.");
        e.run("vat(0, 3, 1)", "vat(2, 3, 1)", "count(3) = 5", "vat(3, 3, 1)", "vat(1, 3, 1)", "count(3) = 15");
        e.run("enough(0) = 0", "candle(0)", "9 x candle(4)", "enough(0) = 1023", "enough(30) = 1022",
                "enough(31) = 0");
        e.run("vat(0, 1, 90)", "vat(2, 1, 90)", "fires(55, 1) = 10", "fires(0, 1) = 0", "vat(0, 1, 50)",
                "vat(2, 1, 50)", "fires(55, 1) = 15");
    }

    private static void vats() throws Exception {
        e.says("1. VATS 0 to 3,");
        for (int v = 0; v < 4; v++) {
            e.run("candle(0)", "vatOf(" + v + ", 2) = 2000", "vat(" + v + ", 1, 40) = 50", "takes(0, " + v + ") = 6",
                    "dip(0, " + v + ") = 6", "warm(" + v + ", 1) = 36", "when(" + v + ", 38) = 0",
                    "takesIn(0, " + v + ", 6) = 0", "kind(0, " + v + ", 0) = 4", "melt(0, " + v + ") = 6",
                    "vatOf(" + v + ", 2) = 2000", "burns(0, " + v + ", 0) = 0");
        }
        for (String v : BAD_VATS) {
            e.run("candle(0)", "vatOf(" + v + ", 0) = BEYOND", "vat(" + v + ", 1, 1) = BEYOND",
                    "takes(0, " + v + ") = BEYOND", "dip(0, " + v + ") = BEYOND", "melt(0, " + v + ") = BEYOND",
                    "warm(" + v + ", 0) = BEYOND", "when(" + v + ", 0) = BEYOND", "takesIn(0, " + v + ", 1) = BEYOND",
                    "burns(0, " + v + ", 0) = BEYOND", "kind(0, " + v + ", 0) = BEYOND");
        }
        e.says("each of TALLOW (0; at first 0, 1, 2), WAX (1; at first 3),");
        e.run("vatOf(0, 0) = 0", "vatOf(1, 0) = 0", "vatOf(2, 0) = 0", "vatOf(3, 0) = 1");
        e.run("vat(0, 0, 1) = 0", "vatOf(0, 0) = 1", "vat(0, 0, 2) = BEYOND", "vat(0, 0, -1) = BEYOND",
                "vat(0, 0, 0) = 1", "vatOf(0, 0) = 0", "vatOf(3, 0) = 1");
        e.says("with WARMTH (0 to 99; 50 at first),");
        e.run("vatOf(0, 1) = 50", "vatOf(1, 1) = 50", "vatOf(2, 1) = 50", "vatOf(3, 1) = 50");
        e.run("vat(2, 1, 99) = 50", "vat(2, 1, 100) = BEYOND", "vatOf(2, 1) = 99", "vat(2, 1, 0) = 99",
                "vat(2, 1, -1) = BEYOND", "vatOf(2, 1) = 0");
        e.says("HOLDS (grams, 0 to 99999; 2000 at first)");
        e.run("vatOf(0, 2) = 2000", "vatOf(1, 2) = 2000", "vatOf(2, 2) = 2000", "vatOf(3, 2) = 2000", "now(3) = 8000");
        e.run("vat(2, 2, 99999) = 2000", "vat(2, 2, 100000) = BEYOND", "vatOf(2, 2) = 99999", "vat(2, 2, 0) = 99999",
                "vat(2, 2, -1) = BEYOND", "vatOf(2, 2) = 0");
        e.says("and FIRE or not (at first).");
        e.run("vatOf(0, 3) = 0", "vatOf(1, 3) = 0", "vatOf(2, 3) = 0", "vatOf(3, 3) = 0", "count(3) = 0");
        e.run("vat(2, 3, 1) = 0", "vat(2, 3, 2) = BEYOND", "vatOf(2, 3) = 1", "vat(2, 3, 0) = 1",
                "vat(2, 3, -1) = BEYOND", "vatOf(2, 3) = 0");
    }

    private static void woodDraughtHour() throws Exception {
        e.says("WOOD: 0 to 9999 (50 at first).");
        e.run("now(1) = 50", "let(0, 9999) = 50", "let(0, 10000) = BEYOND", "now(1) = 9999", "let(0, 0) = 9999",
                "let(0, -1) = BEYOND", "now(1) = 0");
        e.says("DRAUGHT: 0 to 9 (2 at first).");
        e.run("now(2) = 2", "let(1, 9) = 2", "let(1, 10) = BEYOND", "now(2) = 9", "let(1, 0) = 9",
                "let(1, -1) = BEYOND", "now(2) = 0");
        e.says("HOUR: 0 at first (9999 at most).");
        e.run("now(0) = 0");
        e.run("49 x hours(200)", "hours(198)", "now(0) = 9998", "hours(2) = STATE", "warm(0, 2) = STATE",
                "fires(0, 2) = STATE", "warm(0, 1) = 0", "fires(0, 1) = 0", "hours(1) = 0", "now(0) = 9999",
                "hours(1) = STATE", "warm(0, 1) = STATE", "warm(0, 0) = 0", "fires(0, 1) = STATE");
    }

    private static void candles() throws Exception {
        e.says("CANDLES 0, 1, .. (at most 10)");
        e.run("count(0) = 0", "of(0, 0) = BEYOND", "candle(0) = 0", "of(0, 0) = 0", "of(1, 0) = BEYOND",
                "candle(1) = 1", "candle(2) = 2", "candle(3) = 3", "candle(4) = 4", "candle(5) = 5", "candle(0) = 6",
                "candle(0) = 7", "candle(0) = 8", "of(9, 0) = BEYOND", "candle(2) = 9", "of(9, 0) = 2",
                "count(0) = 10", "candle(0) = FULL", "count(0) = 10", "of(10, 0) = BEYOND");
        for (String c : new String[] {"-1", "1", "MIN", "MAX"}) {
            e.run("candle(0)", "sheet(0, 8, 1)", "of(" + c + ", 0) = BEYOND", "layer(" + c + ", 0) = BEYOND",
                    "turn(" + c + ", 0) = BEYOND", "as(" + c + ", 0) = BEYOND", "takes(" + c + ", 0) = BEYOND",
                    "dip(" + c + ", 0) = BEYOND", "melt(" + c + ", 0) = BEYOND", "burn(" + c + ", 1) = BEYOND",
                    "takesIn(" + c + ", 0, 1) = BEYOND", "burns(" + c + ", 0, 0) = BEYOND",
                    "fewest(" + c + ", 0) = BEYOND", "ith(" + c + ", 0, 0) = BEYOND", "ways(" + c + ", 0, 0) = BEYOND",
                    "most(" + c + ", 0) = BEYOND", "best(" + c + ") = BEYOND", "kind(" + c + ", 0, 0) = BEYOND",
                    "lays(0, " + c + ") = BEYOND", "show(0, " + c + ") = BEYOND");
        }
        e.says("are of KINDS: 0 CANDLE, 1 STAR under CANDLE, 2 ALTAR under CANDLE, 3 RUSH under CANDLE, "
                + "4 PASCHAL under ALTAR, 5 TRIPLE under STAR;");
        int[][] under = {{0}, {0, 1}, {0, 2}, {0, 3}, {0, 2, 4}, {0, 1, 5}};
        for (int own = 0; own < 6; own++) {
            for (int kind = 0; kind < 6; kind++) {
                String due = "KIND";
                for (int k : under[own]) {
                    due = k == kind ? own == 4 ? "30" : "0" : due;
                }
                e.run("candle(" + own + ")", "as(0, " + kind + ") = " + due);
            }
        }
        for (String kind : new String[] {"-1", "6", "MIN", "MAX"}) {
            e.run("candle(0)", "sheet(0, 8, 0)", "candle(" + kind + ") = BEYOND", "turn(0, " + kind + ") = BEYOND",
                    "as(0, " + kind + ") = BEYOND", "read(0, " + kind + ") = BEYOND");
        }
    }

    private static void layers() throws Exception {
        e.says("each a row of LAYERS (0 to 40 of them),");
        e.run("candle(0)", "of(0, 1) = 0", "39 x dip(0, 0)", "of(0, 1) = 39", "best(0) = 3", "dip(0, 3) = 324",
                "of(0, 1) = 40", "layer(0, 39) = -6", "layer(0, 40) = NONE", "dip(0, 3) = STATE", "best(0) = STATE");
        e.runOn(FORTY, "of(0, 1) = 40", "count(1) = 40", "burn(0, 27)", "of(0, 1) = 39", "dip(0, 0) = 360",
                "of(0, 1) = 40");
        e.says("each of so many GRAMS (1 or more)");
        e.run("candle(0)", "vat(0, 2, 1)", "dip(0, 0) = 1", "layer(0, 0) = 1", "dip(0, 0) = 1", "of(0, 1) = 1",
                "burn(0, 3) = 0", "of(0, 1) = 0", "layer(0, 0) = NONE");
        e.run("candle(0)", "vat(3, 2, 2)", "dip(0, 3) = 2", "burn(0, 5) = 1", "layer(0, 0) = -1", "burn(0, 5) = 0",
                "of(0, 1) = 0");
        e.says("of what its VAT was of.");
        e.run("candle(0)", "dip(0, 0)", "dip(0, 3)", "vat(0, 0, 1)", "vat(3, 0, 0)", "layer(0, 0) = 6",
                "layer(0, 1) = -6", "dip(0, 0)", "dip(0, 3)", "layer(0, 2) = -6", "layer(0, 3) = 6", "of(0, 3) = 12");
    }

    private static void takesBy(String[] before, int... due) throws Exception {
        for (int i = 0; i < WARMTHS.length; i++) {
            e.runOn(before, "vat(1, 1, " + WARMTHS[i] + ")", "takes(0, 1) = " + due[i]);
        }
    }

    private static void takes() throws Exception {
        e.says("TAKES of a CANDLE in a dip, by WARMTH w of the VAT: CANDLE: below 30: 9 (too cold: lumps); "
                + "30 to 59: 6; 60 to 79: 4; 80 and above: less than nothing: 5 GRAMS come off.");
        takesBy(new String[] {"candle(0)"}, 9, 9, 6, 6, 4, 4, -5, -5);
        takesBy(new String[] {"candle(0)", "2 x dip(0, 0)"}, 9, 9, 6, 6, 4, 4, -5, -5);
        e.says("STAR: as CANDLE, three times (what comes off, too).");
        takesBy(new String[] {"candle(1)"}, 27, 27, 18, 18, 12, 12, -15, -15);
        takesBy(new String[] {"candle(1)", "2 x dip(0, 0)"}, 27, 27, 18, 18, 12, 12, -15, -15);
        e.says("ALTAR: as CANDLE, less 1, if it is above 1.");
        takesBy(new String[] {"candle(2)"}, 8, 8, 5, 5, 3, 3, -5, -5);
        e.says("RUSH: as CANDLE, if it has no LAYERS yet, else half (cut towards 0).");
        takesBy(new String[] {"candle(3)"}, 9, 9, 6, 6, 4, 4, -5, -5);
        takesBy(new String[] {"candle(3)", "dip(0, 0)"}, 4, 4, 3, 3, 2, 2, -2, -2);
        takesBy(new String[] {"candle(3)", "dip(0, 0)", "burn(0, 17)"}, 4, 4, 3, 3, 2, 2, -2, -2);
        takesBy(new String[] {"candle(3)", "dip(0, 0)", "burn(0, 18)"}, 9, 9, 6, 6, 4, 4, -5, -5);
        e.says("PASCHAL: as ALTAR, and 5, if more than nothing.");
        takesBy(new String[] {"candle(4)"}, 13, 13, 10, 10, 8, 8, -5, -5);
        e.says("TRIPLE: as STAR, and 1 for each LAYER that it has, if more than nothing.");
        takesBy(new String[] {"candle(5)"}, 27, 27, 18, 18, 12, 12, -15, -15);
        takesBy(new String[] {"candle(5)", "dip(0, 0)"}, 28, 28, 19, 19, 13, 13, -15, -15);
        takesBy(new String[] {"candle(5)", "40 x dip(0, 0)"}, 67, 67, 58, 58, 52, 52, -15, -15);
    }

    private static void dipThatAdds() throws Exception {
        e.says("A DIP of a CANDLE into a VAT: if it TAKES more than nothing: so many GRAMS (as many as the VAT HOLDS, "
                + "if that is less) come out of the VAT and are a new LAYER of what that is of");
        e.run("candle(0)", "vat(0, 2, 7)", "dip(0, 0) = 6", "vatOf(0, 2) = 1", "dip(0, 0) = 7", "vatOf(0, 2) = 0",
                "layer(0, 0) = 6", "layer(0, 1) = 1");
        e.run("candle(0)", "vat(3, 2, 6)", "dip(0, 3) = 6", "vatOf(3, 2) = 0", "layer(0, 0) = -6");
        e.run("candle(0)", "vat(3, 2, 5)", "dip(0, 3) = 5", "vatOf(3, 2) = 0", "layer(0, 0) = -5");
        e.run("candle(5)", "vat(0, 2, 99999)", "dip(0, 0) = 18", "dip(0, 0) = 37", "vatOf(0, 2) = 99962");
        e.says("(no LAYER, if that is none).");
        e.run("candle(0)", "vat(0, 2, 0)", "dip(0, 0) = 0", "of(0, 1) = 0", "vatOf(0, 2) = 0", "vatOf(0, 1) = 48",
                "dip(0, 3) = 6", "dip(0, 0) = 6", "of(0, 1) = 1");
        e.run("candle(3)", "vat(0, 2, 0)", "dip(0, 0) = 0", "takes(0, 3) = 6");
    }

    private static void dipThatTakesOff() throws Exception {
        e.says("If it TAKES less than nothing: so many GRAMS come off its LAYERS, from the last one on");
        e.run("candle(0)", "dip(0, 3)", "dip(0, 0)", "vat(1, 1, 80)", "dip(0, 1) = 7", "layer(0, 0) = -6",
                "layer(0, 1) = 1", "of(0, 2) = 7", "of(0, 3) = 6", "vatOf(1, 2) = 2005");
        e.run("candle(1)", "dip(0, 0)", "dip(0, 3)", "vat(1, 1, 99)", "dip(0, 1) = 21", "layer(0, 1) = -3",
                "dip(0, 1) = 6", "of(0, 1) = 1", "layer(0, 0) = 6", "of(0, 3) = 0", "vatOf(1, 2) = 2030");
        e.run("candle(3)", "dip(0, 0)", "vat(1, 1, 99)", "dip(0, 1) = 4", "dip(0, 1) = 2", "dip(0, 1) = 0",
                "vatOf(1, 2) = 2006");
        e.says("(LAYERS that are empty are gone),");
        e.run("candle(0)", "dip(0, 0)", "vat(3, 2, 5)", "dip(0, 3)", "vat(1, 1, 99)", "dip(0, 1) = 6", "of(0, 1) = 1",
                "layer(0, 1) = NONE", "of(0, 3) = 0");
        e.run("candle(0)", "vat(0, 2, 6)", "dip(0, 0)", "vat(0, 2, 1)", "dip(0, 0)", "vat(0, 2, 2)", "dip(0, 0)",
                "of(0, 1) = 3", "vat(1, 1, 99)", "dip(0, 1) = 4", "of(0, 1) = 1", "layer(0, 0) = 4", "count(1) = 1");
        e.says("as far as there are,");
        e.run("candle(0)", "vat(0, 2, 4)", "dip(0, 0) = 4", "vat(1, 1, 99)", "dip(0, 1) = 0", "of(0, 1) = 0",
                "vatOf(1, 2) = 2004", "dip(0, 1) = 0", "vatOf(1, 2) = 2004");
        e.run("candle(0)", "vat(0, 2, 5)", "dip(0, 0) = 5", "vat(1, 1, 99)", "dip(0, 1) = 0", "vatOf(1, 2) = 2005");
        e.says("and into the VAT (it HOLDS 99999 at most; more is gone).");
        e.run("candle(0)", "dip(0, 0)", "vat(1, 1, 99)", "vat(1, 2, 99994)", "dip(0, 1) = 1", "vatOf(1, 2) = 99999");
        e.run("candle(0)", "dip(0, 0)", "vat(1, 1, 99)", "vat(1, 2, 99995)", "dip(0, 1) = 1", "vatOf(1, 2) = 99999",
                "now(4) = 1");
        e.run("candle(0)", "dip(0, 0)", "vat(1, 1, 99)", "vat(1, 2, 99999)", "dip(0, 1) = 1", "vatOf(1, 2) = 99999");
        e.run("candle(0)", "dip(0, 3)", "vat(1, 1, 99)", "vat(1, 2, 0)", "dip(0, 1) = 1", "vatOf(1, 2) = 5",
                "vatOf(1, 0) = 0", "layer(0, 0) = -1");
    }

    private static void dipCools() throws Exception {
        e.says("WARMTH of the VAT is 2 less (0 at least), in any case.");
        e.run("candle(0)", "dip(0, 0)", "vatOf(0, 1) = 48", "vatOf(1, 1) = 50");
        e.run("candle(0)", "vat(0, 1, 2)", "dip(0, 0)", "vatOf(0, 1) = 0", "dip(0, 0)", "vatOf(0, 1) = 0");
        e.run("candle(0)", "vat(0, 1, 1)", "dip(0, 0)", "vatOf(0, 1) = 0");
        e.run("candle(0)", "vat(0, 2, 0)", "dip(0, 0)", "vatOf(0, 1) = 48");
        e.run("candle(0)", "vat(0, 1, 81)", "dip(0, 0)", "vatOf(0, 1) = 79", "dip(0, 0)", "vatOf(0, 1) = 77");
        e.run("candle(0)", "vat(0, 3, 1)", "dip(0, 0)", "vatOf(0, 1) = 48");
    }

    private static void burns() throws Exception {
        e.says("BURNS (minutes): CANDLE: 3 for each GRAM of TALLOW, 5 for each of WAX.");
        e.run("candle(0)", "of(0, 4) = 0", "vat(0, 2, 1)", "dip(0, 0)", "of(0, 4) = 3", "vat(3, 2, 1)", "dip(0, 3)",
                "of(0, 4) = 8", "dip(0, 1)", "of(0, 4) = 26");
        e.says("STAR: a third of that.");
        e.run("candle(1)", "of(0, 4) = 0", "vat(3, 2, 1)", "dip(0, 3)", "of(0, 4) = 1", "vat(3, 2, 1)", "dip(0, 3)",
                "of(0, 4) = 3", "vat(3, 2, 1)", "dip(0, 3)", "of(0, 4) = 5");
        e.says("ALTAR: as CANDLE, and a tenth of it.");
        e.run("candle(2)", "of(0, 4) = 0", "vat(0, 2, 3)", "dip(0, 0)", "of(0, 4) = 9", "melt(0, 1)", "vat(3, 2, 2)",
                "dip(0, 3)", "of(0, 4) = 11", "melt(0, 1)", "vat(3, 2, 4)", "dip(0, 3)", "of(0, 4) = 22");
        e.says("RUSH: as CANDLE, 60 at most.");
        e.run("candle(1)", "dip(0, 0) = 18", "turn(0, 3)", "of(0, 4) = 54", "vat(0, 2, 1)", "dip(0, 0) = 19",
                "of(0, 4) = 57", "vat(0, 2, 1)", "dip(0, 0) = 20", "of(0, 4) = 60", "vat(0, 2, 1)", "dip(0, 0) = 21",
                "of(0, 4) = 60", "turn(0, 0)", "of(0, 4) = 63");
        e.run("candle(3)", "of(0, 4) = 0", "vat(3, 2, 1)", "dip(0, 3)", "of(0, 4) = 5");
        e.says("PASCHAL: as ALTAR, and 30.");
        e.run("candle(4)", "of(0, 4) = 30", "vat(0, 2, 3)", "dip(0, 0)", "of(0, 4) = 39", "vat(0, 2, 1)", "dip(0, 0)",
                "of(0, 4) = 43");
        e.says("TRIPLE: as STAR.");
        e.run("candle(5)", "of(0, 4) = 0", "vat(3, 2, 1)", "dip(0, 3)", "of(0, 4) = 1", "vat(3, 2, 1)", "dip(0, 3)",
                "of(0, 4) = 3");
    }

    private static void anHour() throws Exception {
        e.says("An HOUR goes: VATS by numbers:");
        e.run("vat(0, 3, 1)", "vat(1, 3, 1)", "vat(2, 3, 1)", "vat(3, 3, 1)", "let(0, 1)", "hours(1) = 1",
                "vatOf(0, 1) = 60", "vatOf(1, 1) = 48", "vatOf(2, 1) = 48", "vatOf(3, 1) = 48");
        e.run("vat(0, 3, 1)", "vat(1, 3, 1)", "vat(2, 3, 1)", "vat(3, 3, 1)", "let(0, 3)", "warm(2, 1) = 60",
                "warm(3, 1) = 48", "hours(1) = 3", "vatOf(1, 1) = 60", "vatOf(2, 1) = 60", "vatOf(3, 1) = 48");
        e.says("one with FIRE, if there is WOOD: WOOD is 1 less, WARMTH 10 more (99 at most);");
        e.run("vat(1, 3, 1)", "hours(1) = 1", "now(1) = 49", "vatOf(1, 1) = 60");
        e.run("vat(1, 3, 1)", "vat(1, 1, 89)", "hours(1) = 1", "vatOf(1, 1) = 99", "hours(1) = 1",
                "vatOf(1, 1) = 99", "now(1) = 48");
        e.run("vat(1, 3, 1)", "vat(1, 1, 90)", "hours(1) = 1", "vatOf(1, 1) = 99");
        e.run("vat(1, 3, 1)", "let(0, 0)", "hours(1) = 0", "now(1) = 0", "vatOf(1, 1) = 48", "vatOf(1, 3) = 1");
        e.run("vat(1, 3, 1)", "let(0, 1)", "hours(2) = 1", "now(1) = 0", "vatOf(1, 1) = 58");
        e.says("each other one: WARMTH is DRAUGHT less (0 at least).");
        e.run("hours(1) = 0", "vatOf(0, 1) = 48", "vatOf(3, 1) = 48", "now(1) = 50");
        e.run("let(1, 9)", "vat(0, 1, 9)", "vat(1, 1, 8)", "vat(2, 1, 0)", "vat(3, 1, 10)", "hours(1)",
                "vatOf(0, 1) = 0", "vatOf(1, 1) = 0", "vatOf(2, 1) = 0", "vatOf(3, 1) = 1");
        e.run("let(1, 0)", "hours(200)", "vatOf(0, 1) = 50");
        e.says("Then HOUR is one more.");
        e.run("hours(1)", "now(0) = 1", "hours(200)", "now(0) = 201");
    }

    /** The tape is told, text() asked, then what else. */
    private static void text(String tape, String answer, String... then) throws Exception {
        textOn(new String[0], tape, answer, then);
    }

    private static void textOn(String[] before, String tape, String answer, String... then) throws Exception {
        List<String> steps = new ArrayList<>(List.of(before));
        steps.add("tape: " + tape);
        steps.add("text() = " + answer);
        steps.addAll(List.of(then));
        steps.add("count(2) = 0");
        e.run(steps.toArray(new String[0]));
    }

    private static void tokens() throws Exception {
        e.says("THE TEXT of a CHANDLERY, from THE TAPE (bytes, at most 120).");
        text("wood 3;" + " ".repeat(104) + "draught 7", "2", "now(1) = 3", "now(2) = 7");
        e.run("tape: wood 3;" + " ".repeat(104) + "draught 7", "count(2) = 120", "feed(55, 1) = FULL", "text() = 2",
                "now(2) = 7");
        e.run("tape: wood 3;" + " ".repeat(103) + "draught 7", "feed(55, 2) = FULL", "feed(32, 1) = 120",
                "text() = 2");
        e.says("TOKENS, each as long as can be: WORDS (letters a to z),");
        text("candlestar", "-1");
        text("candle;starstar", "-8");
        text("candlea", "-1");
        text("candlez", "-1");
        text("acandle", "-1");
        text("zcandle", "-1");
        text("candl", "-1");
        text("vat 0 waxwarm 8", "-7");
        text("candle`", "-7");
        text("candle{", "-7");
        text("candlE", "-1");
        text("Candle", "-1");
        e.says("NUMBERS (digits, 99999 at most),");
        text("vat 0 holds 99999", "1", "vatOf(0, 2) = 99999");
        text("vat 0 holds 100000", "-13");
        text("vat 0 holds 999990", "-13");
        text("vat 0 holds 4294967296", "-13");
        text("vat 0 holds 18446744073709551617", "-13");
        text("vat 0 holds 00000000000000000099999", "1", "vatOf(0, 2) = 99999");
        text("vat 0 holds 00000000000000000100000", "-13");
        text("wood 09", "1", "now(1) = 9");
        text("wood 90", "1", "now(1) = 90");
        text("wood 1/", "-7");
        text("wood 1:", "-7");
        text("wood 1 2", "-8");
        e.says("SIGN ; ;");
        text("candle;candle", "2");
        text("candle:candle", "-7");
        text("candle<candle", "-7");
        text("candle,candle", "-7");
        e.says("blanks may stand between.");
        text("  vat   0  warm 7 ;  candle  ", "2", "vatOf(0, 1) = 7", "count(0) = 1");
        text("vat1wax warm8holds9fire;candle;dip0in1;wood5", "4", "vatOf(1, 2) = 0", "vatOf(1, 1) = 6",
                "layer(0, 0) = -9", "count(3) = 2", "now(1) = 5");
        text("can dle", "-1");
        text("wood 1 0", "-8");
        text("wood\t7", "-5");
        text("wood 7\n", "-7");
    }

    private static void items() throws Exception {
        e.says("TEXT: ITEM { ; ITEM }.");
        e.run("text() = -1");
        text("candle", "1");
        text("candle;star;altar;rush;paschal;triple;wood 1;draught 1;vat 0;dip 0 in 0", "10");
        text("wood 1" + ";vat 0".repeat(19), "20");
        text(";", "-1");
        text("candle;", "-8");
        text(";candle", "-1");
        text("candle;;candle", "-8");
        text("candle candle", "-8");
        text("wood 1 draught 1", "-8");
        text("vat 0 vat 0", "-7");
        e.says("ITEM: the name of a KIND (candle star altar rush paschal triple): a new one without LAYERS;");
        String[] kinds = {"candle", "star", "altar", "rush", "paschal", "triple"};
        for (int k = 0; k < 6; k++) {
            text(kinds[k], "1", "count(0) = 1", "of(0, 0) = " + k, "of(0, 1) = 0", "of(0, 2) = 0");
            text(kinds[k] + "s", "-1", "count(0) = 0");
            text(kinds[k] + " 0", "" + (-2 - kinds[k].length()));
        }
        textOn(new String[] {"image()", "candle(0)", "2 x dip(0, 3)", "undo()"}, "triple", "1", "of(0, 0) = 5",
                "of(0, 1) = 0", "of(0, 3) = 0", "count(1) = 0");
        textOn(new String[] {"9 x candle(0)"}, "star", "1", "of(9, 0) = 1");
    }

    private static void itemVat() throws Exception {
        e.says("vat, a NUMBER (0 to 3),");
        for (int v = 0; v < 4; v++) {
            text("vat " + v + " warm 7", "1", "vatOf(" + v + ", 1) = 7");
        }
        text("vat 4", "-5");
        text("vat 10", "-5");
        text("vat", "-4");
        text("vat wax", "-5");
        text("vat;", "-4");
        text("vat 2", "1", "vatOf(2, 0) = 0", "vatOf(2, 1) = 50", "vatOf(2, 2) = 2000", "vatOf(2, 3) = 0");
        e.says("perhaps tallow or wax (what it is of),");
        text("vat 2 wax", "1", "vatOf(2, 0) = 1", "vatOf(2, 1) = 50", "vatOf(2, 2) = 2000", "vatOf(2, 3) = 0");
        text("vat 3 tallow", "1", "vatOf(3, 0) = 0");
        text("vat 3", "1", "vatOf(3, 0) = 1");
        text("vat 3 tallow wax", "-14");
        text("vat 3 wax wax", "-11");
        text("vat 3 warm 1 wax", "-14");
        e.says("perhaps warm and a NUMBER (0 to 99),");
        text("vat 2 warm 0", "1", "vatOf(2, 1) = 0");
        text("vat 2 warm 99", "1", "vatOf(2, 1) = 99");
        text("vat 2 warm 100", "-12");
        text("vat 2 warm", "-11");
        text("vat 2 warm fire", "-12");
        text("vat 2 warm 1 warm 1", "-14");
        text("vat 2 holds 1 warm 1", "-15");
        e.says("perhaps holds and a NUMBER (0 to 99999),");
        text("vat 2 holds 0", "1", "vatOf(2, 2) = 0");
        text("vat 2 holds 1", "1", "vatOf(2, 0) = 0", "vatOf(2, 1) = 50", "vatOf(2, 2) = 1", "vatOf(2, 3) = 0");
        textOn(new String[] {"vat(2, 3, 1)"}, "vat 2 warm 0 holds 0", "1", "vatOf(2, 3) = 1");
        text("vat 2 holds 99999", "1", "vatOf(2, 2) = 99999");
        text("vat 2 holds 100000", "-13");
        text("vat 2 holds", "-12");
        text("vat 2 holds cold", "-13");
        text("vat 2 holds 1 holds 1", "-15");
        text("vat 2 fire holds 1", "-12");
        e.says("perhaps fire or cold (FIRE, or not);");
        text("vat 2 fire", "1", "vatOf(2, 3) = 1", "count(3) = 4");
        textOn(new String[] {"vat(2, 3, 1)"}, "vat 2 cold", "1", "count(3) = 0");
        textOn(new String[] {"vat(2, 3, 1)"}, "vat 2", "1", "count(3) = 4");
        text("vat 2 fire cold", "-12");
        text("vat 2 cold cold", "-12");
        text("vat 0 wax warm 9 holds 8 fire", "1", "vatOf(0, 0) = 1", "vatOf(0, 1) = 9", "vatOf(0, 2) = 8",
                "vatOf(0, 3) = 1");
    }

    private static void itemDip() throws Exception {
        String[] ten = {"10 x candle(0)"};
        e.says("dip, a NUMBER (a CANDLE there by then),");
        text("dip 0 in 0", "-5");
        text("candle;dip 0 in 0", "2", "layer(0, 0) = 6");
        text("dip 0 in 0;candle", "-5");
        text("candle;dip 1 in 0", "-12");
        text("candle;dip 1 in 0;candle", "-12");
        textOn(ten, "dip 9 in 0", "1", "of(9, 1) = 1");
        textOn(ten, "dip 10 in 0", "-5");
        text("dip", "-4");
        text("dip in 0", "-5");
        e.says("in, a NUMBER (a VAT):");
        textOn(ten, "dip 0 in 0;dip 0 in 3", "2", "layer(0, 0) = 6", "layer(0, 1) = -6");
        textOn(ten, "dip 0 in 4", "-10");
        textOn(ten, "dip 0 in", "-9");
        textOn(ten, "dip 0 in;", "-9");
        textOn(ten, "dip 0 0", "-7");
        textOn(ten, "dip 0", "-6");
        textOn(ten, "dip 0 on 0", "-7");
        textOn(ten, "dip 0 in vat", "-10");
        e.says("a DIP (of one of 40 LAYERS: nothing);");
        textOn(ten, "dip 0 in 0", "1", "of(0, 2) = 6", "vatOf(0, 1) = 48", "vatOf(0, 2) = 1994");
        textOn(new String[] {"candle(0)", "39 x dip(0, 0)"}, "dip 0 in 3;dip 0 in 3", "2", "of(0, 1) = 40",
                "vatOf(3, 1) = 48", "vatOf(3, 2) = 1994");
        textOn(FORTY, "dip 0 in 3;vat 1 warm 99;dip 0 in 1", "3", "of(0, 1) = 40", "of(0, 2) = 360", "vatOf(3, 1) = 50",
                "vatOf(3, 2) = 2000", "vatOf(1, 1) = 99", "vatOf(1, 2) = 2000", "status(-1) = 0");
        textOn(FORTY, "dip 0 in 4", "-10");
    }

    private static void itemWoodDraught() throws Exception {
        e.says("wood and a NUMBER (0 to 9999);");
        text("wood 0", "1", "now(1) = 0", "now(2) = 2");
        text("wood 9999", "1", "now(1) = 9999");
        text("wood 10000", "-6");
        text("wood", "-5");
        text("wood;", "-5");
        text("wood -1", "-6");
        e.says("draught and a NUMBER (0 to 9).");
        text("draught 0", "1", "now(2) = 0", "now(1) = 50");
        text("draught 9", "1", "now(2) = 9");
        text("draught 10", "-9");
        text("draught", "-8");
        text("draught in", "-9");
    }

    private static void faults() throws Exception {
        e.says("FAULT: the place (from 0) of the first byte of the first TOKEN that can't stand there");
        text("x", "-1");
        text(" x", "-2");
        text("wood 1; x", "-9");
        text("vat 9 ? warm", "-5");
        text("candle  candle", "-9");
        text(" ".repeat(119) + "x", "-120");
        e.says("(a NUMBER that may not be,");
        text("7", "-1");
        text("vat 4", "-5");
        text("vat 0 7", "-7");
        text("vat 0 warm 100", "-12");
        text("vat 0 holds 100000", "-13");
        text("wood 99999", "-6");
        text("draught 99999", "-9");
        text("candle; dip 1 in 0", "-13");
        text("candle; dip 0 in 99999", "-18");
        e.says("another WORD,");
        text("in", "-1");
        text("wax", "-1");
        text("vat fire", "-5");
        text("vat 0 candle", "-7");
        text("vat 0 in", "-7");
        text("candle; dip 0 to 0", "-15");
        text("candle in", "-8");
        e.says("a byte that begins no TOKEN,");
        text("?", "-1");
        text("candle\0", "-7");
        text("candle;" + (char) 255, "-8");
        text("candle;" + (char) 128, "-8");
        text("wood " + (char) ('7' + 128), "-6");
        text("can" + (char) ('d' + 128) + "le", "-1");
        text("vat 0 " + (char) (';' + 128), "-7");
        text("vat 0." + "5", "-6");
        e.says("the name of a KIND for an 11th: its own),");
        String[] eight = {"8 x candle(0)"};
        textOn(eight, "rush;rush;star", "-11", "count(0) = 8");
        textOn(eight, "rush;rush; wood 1; star", "-20", "count(0) = 8", "now(1) = 50");
        textOn(eight, "rush;rush", "2", "count(0) = 10");
        textOn(eight, "rush;rush;wood 1", "3", "count(0) = 10", "candle(0) = FULL");
        textOn(new String[] {"10 x candle(0)"}, "triple", "-1");
        text("candle;candle;candle;candle;candle;candle;candle;candle;candle;candle;candle", "-71", "count(0) = 0");
        e.says("or how many bytes there are if it ends too early.");
        e.run("text() = -1", "status(-1) = 0");
        text(" ", "-2");
        text("vat 0;", "-7");
        text("vat 0; ", "-8");
        text("vat ", "-5");
        text("vat 0 warm ", "-12");
        text(" ".repeat(120), "-121");
        text("wood 3" + " ".repeat(104) + "; draught ", "-121");
        text(" ".repeat(116) + "wood", "-121");
    }

    private static void rows() throws Exception {
        e.says("2. ON: n HOURS go on with all as it is; nothing changes.");
        e.run("vat(0, 3, 1)", "vat(1, 3, 1)", "let(0, 5)", "warm(0, 3) = 80", "warm(1, 3) = 68", "warm(2, 3) = 44",
                "warm(2, 25) = 0", "warm(0, 0) = 50", "when(1, 70) = 2", "when(1, 71) = NONE", "fires(44, 3) = 0",
                "now(0) = 0", "now(1) = 5");
        e.says("A ROW of DIPS: VATS (0 to 3) into which a CANDLE is dipped one behind the other, now");
        e.run("candle(0)", "ways(0, 0, 0) = 1", "ways(0, 18, 1) = 3", "ways(0, 30, 1) = 1", "ways(0, 36, 2) = 9",
                "ways(0, 48, 2) = 6", "ways(0, 60, 2) = 1", "ways(0, 180, 6) = 1", "ways(0, 108, 6) = 729");
        e.run("candle(0)", "hours(11)", "vatOf(3, 1) = 28", "most(0, 1) = 45", "ways(0, 27, 1) = 3");
        e.says("(VATS change by each as told;");
        e.run("candle(0)", "vat(0, 1, 31)", "burns(0, 0, 1) = 18", "burns(0, 0, 2) = 45", "vat(0, 2, 20)",
                "burns(0, 0, 2) = 45", "burns(0, 0, 3) = 60", "burns(0, 0, 40) = 60", "vatOf(0, 1) = 31",
                "vatOf(0, 2) = 20");
        e.run("candle(0)", "vat(3, 2, 7)", "most(0, 2) = 48", "ways(0, 35, 2) = 1", "ways(0, 48, 2) = 6");
        e.run("candle(0)", "vat(1, 1, 83)", "dip(0, 0)", "burns(0, 1, 1) = 3", "burns(0, 1, 2) = 0",
                "burns(0, 1, 3) = 12");
        e.says("with 40 LAYERS a DIP changes nothing).");
        e.runOn(FORTY, "vat(1, 1, 99)", "burns(0, 1, 1) = 1080", "burns(0, 0, 40) = 1080", "ways(0, 1080, 6) = 4096",
                "ways(0, 1080, 1) = 4", "most(0, 6) = 1080", "fewest(0, 1081) = NONE", "fewest(0, 1080) = 0",
                "kind(0, 1, 40) = 4");
        e.run("candle(0)", "39 x dip(0, 0)", "of(0, 2) = 318", "burns(0, 0, 1) = 981", "burns(0, 0, 2) = 981",
                "burns(0, 0, 40) = 981", "most(0, 1) = 984", "most(0, 6) = 984", "ways(0, 984, 1) = 1",
                "ways(0, 984, 2) = 4", "ways(0, 984, 6) = 1024");
        e.run("candle(0)", "39 x dip(0, 0)", "vat(1, 1, 82)", "vat(1, 2, 0)", "burns(0, 1, 1) = 939",
                "burns(0, 1, 2) = 924", "burns(0, 1, 3) = 936", "burns(0, 1, 4) = 948",
                "burns(0, 1, 5) = 948", "burns(0, 1, 40) = 948");
    }

    private static void sheets() throws Exception {
        e.says("3. SHEETS 0 to 3 are rows of at most 40 numbers of 8, 16 or 64 bits,");
        for (int s = 0; s < 4; s++) {
            e.run("sheet(" + s + ", 8, 40) = 40", "write(" + s + ", 39, 1) = 0", "write(" + s + ", 39, 0) = 1",
                    "write(" + s + ", 40, 1) = BEYOND", "sheet(" + s + ", 8, 41) = BEYOND");
        }
        for (String s : BAD_VATS) {
            e.run("candle(0)", "sheet(0, 8, 1)", "sheet(" + s + ", 8, 1) = BEYOND", "write(" + s + ", 0, 0) = BEYOND",
                    "copy(" + s + ", 0, 0, 0, 0) = BEYOND", "copy(0, 0, " + s + ", 0, 0) = BEYOND",
                    "lays(" + s + ", 0) = BEYOND", "show(" + s + ", 0) = BEYOND", "read(" + s + ", 0) = BEYOND");
        }
        e.run("sheet(0, 8, 1)", "write(0, 0, 127)", "write(0, 0, 128) = 127", "write(0, 0, -128) = -128",
                "write(0, 0, -129) = -128", "write(0, 0, 255) = 127", "write(0, 0, 256) = -1", "write(0, 0, 0) = 0");
        e.run("sheet(0, 16, 1)", "write(0, 0, 32767)", "write(0, 0, 32768) = 32767", "write(0, 0, -32769) = -32768",
                "write(0, 0, 65535) = 32767", "write(0, 0, 65536) = -1", "write(0, 0, 0) = 0");
        e.run("sheet(0, 64, 1)", "write(0, 0, 9223372036854775807)", "write(0, 0, -9223372036854775808) = "
                + "9223372036854775807", "write(0, 0, 4294967296) = -9223372036854775808",
                "write(0, 0, 0) = 4294967296");
        for (int bits : new int[] {-1, 1, 7, 9, 15, 17, 32, 63, 65, Integer.MIN_VALUE, Integer.MAX_VALUE}) {
            e.run("sheet(0, " + bits + ", 1) = BEYOND");
        }
        e.says("or MISSING (at first).");
        for (int s = 0; s < 4; s++) {
            e.run("candle(0)", "write(" + s + ", 0, 0) = MISSING", "copy(" + s + ", 0, " + s + ", 0, 0) = MISSING",
                    "lays(" + s + ", 0) = MISSING", "show(" + s + ", 0) = MISSING", "read(" + s + ", 0) = MISSING");
        }
    }
}
