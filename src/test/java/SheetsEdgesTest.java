/** Promises 28 to 41 of the document, piece by piece, at the edges that they name. */
public final class SheetsEdgesTest {
    private static final String[] NONE = {};
    /** Sheets 0 and 1 of 64 bits, of five numbers and of three; sheet 2 of 8 bits; sheet 3 is missing. */
    private static final String[] THREE = {
        "sheet(0, 64, 5)", "write(0, 0, 11)", "write(0, 1, 12)", "write(0, 2, 13)", "write(0, 3, 14)", "write(0, 4, 15)",
        "sheet(1, 64, 3)", "write(1, 0, 21)", "write(1, 1, 22)", "write(1, 2, 23)", "sheet(2, 8, 5)"};
    private static final String[] FORTY = {"candle(0)", "vat(0, 1, 0)", "40 x dip(0, 0)"};
    private static Edges e;

    public static void main(String[] args) throws Exception {
        e = new Edges();
        feed();
        wipe();
        text();
        sheet();
        write();
        copy();
        lays();
        show();
        read();
        image();
        undo();
        tear();
        count();
        status();
        e.end("SheetsEdgesTest", e.promises());
    }

    private static void beyond(String[] before, String call, Object... wrong) throws Exception {
        for (Object w : wrong) {
            e.runOn(before, call.replace("?", w.toString()) + " = BEYOND");
        }
    }

    private static void feed() throws Exception {
        e.promise(28);
        e.says("THE TAPE gets the n lowest bytes of a number behind it, the highest of these first (n 1 to 4): "
                + "how many it has.");
        // 2003791716 is 'wood', 859124791 is '3547'; the two lowest bytes of -37787 are 'le'.
        e.run("feed(2003791716, 4) = 4", "feed(859124791, 1) = 5", "text() = 1", "now(1) = 7");
        e.run("feed(2003791716, 4) = 4", "feed(859124791, 2) = 6", "text() = 1", "now(1) = 47");
        e.run("feed(2003791716, 4) = 4", "feed(859124791, 3) = 7", "text() = 1", "now(1) = 547");
        e.run("feed(2003791716, 4) = 4", "feed(859124791, 4) = 8", "text() = 1", "now(1) = 3547");
        e.run("feed(-1, 1) = 1", "feed(-1, 4) = 5", "feed(MIN, 4) = 9", "feed(MAX, 4) = 13", "text() = -1",
                "count(2) = 0");
        e.run("tape: cand", "feed(-37787, 2) = 6", "text() = 1", "count(0) = 1");
        e.says("BEYOND: n.");
        beyond(NONE, "feed(0, ?)", 0, -1, 5, "MIN", "MAX");
        beyond(new String[] {"30 x feed(0, 4)"}, "feed(0, ?)", 0, 5);
        e.says("FULL.");
        e.run("29 x feed(0, 4)", "feed(0, 4) = 120", "feed(0, 1) = FULL", "feed(0, 4) = FULL", "count(2) = 120");
        e.run("29 x feed(0, 4)", "feed(0, 1) = 117", "feed(0, 4) = FULL", "feed(0, 3) = 120", "feed(0, 1) = FULL",
                "wipe() = 120", "feed(0, 1) = 1");
        e.run("29 x feed(0, 4)", "feed(0, 3) = 119", "feed(0, 2) = FULL", "feed(0, 1) = 120");
    }

    private static void wipe() throws Exception {
        e.promise(29);
        e.says("THE TAPE is empty: how many it had.");
        e.run("wipe() = 0", "feed(0, 3)", "wipe() = 3", "count(2) = 0", "wipe() = 0", "text() = -1");
        e.run("30 x feed(0, 4)", "wipe() = 120", "count(2) = 0", "tape: wood 7", "count(2) = 6", "text() = 1",
                "now(1) = 7");
        e.run("tape: candle;star", "wipe() = 11", "tape: rush", "text() = 1", "count(0) = 1", "of(0, 0) = 3");
    }

    private static void text() throws Exception {
        e.promise(30);
        e.says("THE TAPE is THE TEXT of a CHANDLERY, whose ITEMS come to what there is, and empty then: how many ITEMS.");
        e.run("candle(2)", "tape: star;dip 0 in 0;vat 1 fire;wood 9", "text() = 4", "count(0) = 2", "of(0, 0) = 2",
                "of(1, 0) = 1", "of(0, 2) = 5", "count(3) = 2", "now(1) = 9", "now(2) = 2", "count(2) = 0",
                "text() = -1");
        e.run("tape: wood 1;wood 2;wood 3", "text() = 3", "now(1) = 3", "tape: draught 4", "text() = 1", "now(1) = 3",
                "now(2) = 4");
        e.run("tape: " + "vat0;".repeat(23) + "vat0", "count(2) = 119", "text() = 24");
        e.says("With a FAULT: -1 less its place (nothing changes but that THE TAPE is empty; no finding).");
        e.run("candle(0)", "dip(0, 0)", "image()",
                "tape: vat 0 wax warm 9 holds 8 fire;candle;dip 0 in 1;dip 1 in 3;wood 3;draught 4;", "text() = -77",
                "count(2) = 0", "status(-1) = 0", "now(1) = 50", "now(2) = 2", "count(0) = 1", "of(0, 1) = 1",
                "vatOf(0, 0) = 0", "vatOf(0, 1) = 48", "vatOf(0, 2) = 1994", "vatOf(1, 1) = 50", "count(3) = 0",
                "tape: star", "text() = 1", "of(1, 0) = 1");
        e.run("candle(0)", "vat(0, 3, 1)", "tape: vat 0 cold;vat 3 tallow;candle;dip 0 in 0;x", "text() = -43",
                "count(3) = 1", "vatOf(3, 0) = 1", "count(0) = 1", "of(0, 1) = 0");
        e.run("text() = -1", "status(-1) = 0", "tape: " + " ".repeat(120), "text() = -121", "count(2) = 0",
                "status(-1) = 0");
    }

    private static void sheet() throws Exception {
        e.promise(31);
        e.says("A sheet has n numbers, all 0, of 8, 16 or 64 bits;");
        for (int bits : new int[] {8, 16, 64}) {
            e.run("sheet(0, " + bits + ", 0) = 0", "write(0, 0, 1) = BEYOND", "read(0, 0) = 0",
                    "sheet(0, " + bits + ", 1) = 1", "write(0, 0, 1) = 0", "write(0, 1, 1) = BEYOND",
                    "sheet(0, " + bits + ", 40) = 40", "write(0, 0, 1) = 0", "write(0, 39, 7) = 0",
                    "write(0, 40, 1) = BEYOND", "sheet(0, " + bits + ", 40) = 40", "write(0, 0, 1) = 0",
                    "write(0, 39, 1) = 0");
        }
        e.run("sheet(0, 64, 40)", "write(0, 39, 7)", "sheet(0, 64, 1)", "sheet(0, 64, 40)", "write(0, 39, 7) = 0");
        e.run("sheet(0, 8, 1)", "write(0, 0, 200)", "write(0, 0, 0) = -56", "sheet(0, 16, 1)", "write(0, 0, 200) = 0",
                "write(0, 0, 40000) = 200", "write(0, 0, 0) = -25536", "sheet(0, 64, 1)", "write(0, 0, 40000) = 0",
                "write(0, 0, 0) = 40000");
        e.run("sheet(0, 8, 2)", "sheet(1, 8, 3)", "write(0, 1, 5)", "sheet(1, 8, 1)", "write(0, 1, 0) = 5");
        e.says("bits 0: it is MISSING: n (0 if it is MISSING).");
        e.run("sheet(0, 8, 3) = 3", "sheet(0, 0, 3) = 0", "write(0, 0, 0) = MISSING", "sheet(0, 0, 0) = 0",
                "sheet(0, 0, 40) = 0", "write(0, 0, 0) = MISSING", "sheet(0, 8, 1) = 1", "write(0, 0, 1) = 0");
        e.run("sheet(0, 8, 3)", "write(0, 0, 7)", "sheet(0, 0, 0) = 0", "sheet(0, 8, 3)", "write(0, 0, 0) = 0");
        e.says("BEYOND: no such sheet, other bits.");
        beyond(NONE, "sheet(?, 8, 1)", -1, 4, "MIN", "MAX");
        beyond(NONE, "sheet(0, ?, 1)", -8, -1, 1, 7, 9, 15, 17, 32, 63, 65, 128, "MIN", "MAX");
        beyond(NONE, "sheet(?, 8, -1)", -1, 4);
        beyond(NONE, "sheet(0, ?, -1)", 7, 32);
        e.says("SIZE: n is below 0 (also with bits 0).");
        e.run("sheet(0, 8, -1) = SIZE", "sheet(0, 16, MIN) = SIZE", "sheet(0, 64, -1) = SIZE", "sheet(0, 0, -1) = SIZE",
                "sheet(0, 0, MIN) = SIZE", "status(6) = 5");
        e.runOn(THREE, "sheet(0, 8, -1) = SIZE", "sheet(0, 0, -1) = SIZE", "write(0, 4, 0) = 15");
        e.says("BEYOND: n is above 40 (also with bits 0).");
        beyond(THREE, "sheet(0, 8, ?)", 41, "MAX");
        beyond(THREE, "sheet(0, 0, ?)", 41, "MAX");
        beyond(THREE, "sheet(0, 64, ?)", 41, "MAX");
    }

    private static void write() throws Exception {
        e.promise(32);
        e.says("Number i of a sheet becomes v (its lowest bits): what it was.");
        e.run("sheet(0, 8, 1)", "write(0, 0, 127) = 0", "write(0, 0, 128) = 127", "write(0, 0, 255) = -128",
                "write(0, 0, 256) = -1", "write(0, 0, 257) = 0", "write(0, 0, -129) = 1", "write(0, 0, 0) = 127");
        e.run("sheet(0, 16, 1)", "write(0, 0, 32767) = 0", "write(0, 0, 32768) = 32767", "write(0, 0, 65535) = -32768",
                "write(0, 0, 65536) = -1", "write(0, 0, 65537) = 0", "write(0, 0, -32769) = 1", "write(0, 0, 0) = 32767");
        e.run("sheet(0, 64, 1)", "write(0, 0, 9223372036854775807) = 0",
                "write(0, 0, -9223372036854775808) = 9223372036854775807",
                "write(0, 0, 4294967295) = -9223372036854775808", "write(0, 0, -1) = 4294967295",
                "write(0, 0, 0) = -1");
        e.run("sheet(0, 64, 2)", "write(0, 1, -1000000001) = 0", "write(0, 1, 0) = -1000000001", "status(-1) = 0",
                "write(0, 0, 0) = 0");
        e.says("BEYOND: no such sheet.");
        beyond(THREE, "write(?, 0, 1)", -1, 4, "MIN", "MAX");
        beyond(NONE, "write(?, -1, 1)", -1, 4);
        e.says("MISSING.");
        e.runOn(THREE, "write(3, 0, 1) = MISSING", "write(3, -1, 1) = MISSING", "write(3, MAX, 1) = MISSING",
                "sheet(2, 0, 0)", "write(2, 0, 1) = MISSING");
        e.says("BEYOND: no such number.");
        beyond(THREE, "write(0, ?, 1)", -1, 5, 40, "MIN", "MAX");
        beyond(new String[] {"sheet(0, 8, 0)"}, "write(0, ?, 1)", 0, -1);
        beyond(new String[] {"sheet(0, 8, 40)"}, "write(0, ?, 1)", 40, 41);
    }

    private static void copy() throws Exception {
        e.promise(33);
        e.says("n numbers of a sheet from one on come to another one from one on (as they all were): n.");
        e.runOn(THREE, "copy(0, 1, 1, 1, 2) = 2", "write(1, 0, 0) = 21", "write(1, 1, 0) = 12", "write(1, 2, 0) = 13",
                "write(0, 1, 0) = 12", "write(0, 2, 0) = 13");
        e.runOn(THREE, "copy(1, 0, 0, 2, 3) = 3", "write(0, 1, 0) = 12", "write(0, 2, 0) = 21", "write(0, 4, 0) = 23");
        e.runOn(THREE, "copy(0, 0, 0, 1, 4) = 4", "write(0, 0, 0) = 11", "write(0, 1, 0) = 11", "write(0, 2, 0) = 12",
                "write(0, 3, 0) = 13", "write(0, 4, 0) = 14");
        e.runOn(THREE, "copy(0, 1, 0, 0, 4) = 4", "write(0, 0, 0) = 12", "write(0, 1, 0) = 13", "write(0, 2, 0) = 14",
                "write(0, 3, 0) = 15", "write(0, 4, 0) = 15");
        e.runOn(THREE, "copy(0, 0, 0, 0, 5) = 5", "write(0, 0, 0) = 11", "write(0, 4, 0) = 15");
        e.runOn(THREE, "copy(0, 5, 1, 3, 0) = 0", "copy(0, 0, 1, 0, 0) = 0", "write(1, 0, 0) = 21");
        e.run("sheet(0, 8, 0)", "sheet(1, 8, 0)", "copy(0, 0, 1, 0, 0) = 0", "copy(0, 0, 1, 0, 1) = BEYOND");
        e.says("BEYOND: no such sheet (either).");
        beyond(THREE, "copy(?, 0, 0, 0, 1)", -1, 4, "MIN", "MAX");
        beyond(THREE, "copy(0, 0, ?, 0, 1)", -1, 4, "MIN", "MAX");
        beyond(THREE, "copy(3, 0, ?, 0, 1)", -1, 4);
        beyond(THREE, "copy(?, 0, 3, 0, 1)", -1, 4);
        e.says("MISSING: one is.");
        e.runOn(THREE, "copy(3, 0, 0, 0, 1) = MISSING", "copy(0, 0, 3, 0, 1) = MISSING", "copy(3, 0, 3, 0, 0) = MISSING",
                "copy(3, -1, 2, 0, 1) = MISSING", "copy(2, 0, 3, 0, -1) = MISSING");
        e.says("KIND: they are not of as many bits.");
        e.runOn(THREE, "copy(0, 0, 2, 0, 1) = KIND", "copy(2, 0, 0, 0, 1) = KIND", "copy(0, 0, 2, 0, 0) = KIND",
                "copy(0, -1, 2, 0, 1) = KIND", "copy(0, 0, 2, 0, 41) = KIND", "sheet(3, 16, 5)",
                "copy(2, 0, 3, 0, 1) = KIND", "copy(3, 0, 0, 0, 1) = KIND", "sheet(2, 16, 5)", "copy(2, 0, 3, 0, 1) = 1");
        e.says("BEYOND: one has not so many, or from, to or n is below 0.");
        e.runOn(THREE, "copy(0, 0, 1, 0, 4) = BEYOND", "copy(1, 0, 0, 0, 4) = BEYOND", "copy(0, 3, 1, 0, 3) = BEYOND",
                "copy(0, 0, 1, 1, 3) = BEYOND", "copy(0, 3, 1, 0, 2) = 2", "copy(0, 0, 1, 1, 2) = 2");
        beyond(THREE, "copy(0, ?, 1, 0, 1)", -1, 5, 6, "MIN", "MAX");
        beyond(THREE, "copy(0, 0, 1, ?, 1)", -1, 3, 4, "MIN", "MAX");
        beyond(THREE, "copy(0, 0, 1, 0, ?)", -1, 4, 40, 41, "MIN", "MAX");
        beyond(THREE, "copy(0, ?, 1, 0, 0)", -1, 6, "MIN", "MAX");
        beyond(THREE, "copy(0, 0, 1, ?, 0)", -1, 4, "MIN", "MAX");
        beyond(THREE, "copy(0, 1, 1, 1, ?)", "MAX", Integer.MAX_VALUE - 1, -1, "MIN");
        beyond(THREE, "copy(0, ?, 1, ?, ?)", "MAX", "MIN", -1);
    }

    private static void lays() throws Exception {
        e.promise(34);
        e.says("Numbers of a sheet are VATS into which a CANDLE is dipped, one behind the other, "
                + "up to the first that is none,");
        e.run("candle(0)", "sheet(0, 8, 4)", "write(0, 0, 3)", "write(0, 2, 4)", "write(0, 3, 1)", "lays(0, 0) = 2",
                "layer(0, 0) = -6", "layer(0, 1) = 6", "of(0, 1) = 2", "vatOf(3, 1) = 48", "vatOf(0, 2) = 1994",
                "vatOf(1, 1) = 50");
        e.run("candle(0)", "sheet(0, 8, 3)", "write(0, 1, -1)", "lays(0, 0) = 1", "of(0, 1) = 1");
        e.run("candle(0)", "sheet(0, 8, 1)", "write(0, 0, 4)", "lays(0, 0) = 0", "write(0, 0, -1)", "lays(0, 0) = 0",
                "write(0, 0, 127)", "lays(0, 0) = 0", "of(0, 1) = 0", "write(0, 0, 256)", "lays(0, 0) = 1");
        e.run("candle(0)", "sheet(0, 64, 1)", "write(0, 0, 4294967296)", "lays(0, 0) = 0", "write(0, 0, 4294967297)",
                "lays(0, 0) = 0", "write(0, 0, -4294967296)", "lays(0, 0) = 0", "write(0, 0, -9223372036854775808)",
                "lays(0, 0) = 0", "of(0, 1) = 0", "status(-1) = 0");
        e.run("candle(0)", "sheet(0, 8, 0)", "lays(0, 0) = 0", "of(0, 1) = 0");
        e.run("candle(0)", "vat(0, 2, 0)", "sheet(0, 8, 3)", "lays(0, 0) = 3", "of(0, 1) = 0", "vatOf(0, 1) = 44");
        e.run("candle(0)", "dip(0, 3)", "vat(1, 1, 99)", "sheet(0, 8, 2)", "write(0, 0, 1)", "write(0, 1, 1)",
                "lays(0, 0) = 2", "of(0, 1) = 0", "vatOf(1, 2) = 2006");
        e.says("or its 40th LAYER: how many DIPS.");
        e.run("candle(0)", "sheet(0, 8, 40)", "lays(0, 0) = 40", "of(0, 1) = 40", "vatOf(0, 1) = 0",
                "lays(0, 0) = 0", "vatOf(0, 2) = 1673", "status(-1) = 0");
        e.run("candle(0)", "2 x dip(0, 3)", "sheet(0, 8, 40)", "lays(0, 0) = 38", "of(0, 1) = 40");
        e.run("candle(0)", "39 x dip(0, 0)", "sheet(0, 8, 2)", "write(0, 0, 3)", "write(0, 1, 3)", "lays(0, 0) = 1",
                "vatOf(3, 1) = 48", "of(0, 1) = 40");
        e.runOn(FORTY, "vat(1, 1, 99)", "sheet(0, 8, 1)", "write(0, 0, 1)", "lays(0, 0) = 0", "of(0, 2) = 360",
                "vatOf(1, 1) = 99");
        e.says("BEYOND: no such sheet.");
        beyond(new String[] {"candle(0)"}, "lays(?, 0)", -1, 4, "MIN", "MAX");
        beyond(NONE, "lays(?, 0)", -1, 4);
        e.says("MISSING.");
        e.run("candle(0)", "lays(0, 0) = MISSING", "lays(0, 1) = MISSING", "lays(3, -1) = MISSING", "sheet(0, 8, 1)",
                "sheet(0, 0, 1)", "lays(0, 0) = MISSING");
        e.says("BEYOND: candle.");
        beyond(new String[] {"candle(0)", "sheet(0, 8, 1)"}, "lays(0, ?)", -1, 1, "MIN", "MAX");
        beyond(new String[] {"sheet(0, 8, 0)"}, "lays(0, ?)", 0);
    }

    private static void show() throws Exception {
        String[] two = {"candle(0)", "dip(0, 0)", "dip(0, 3)"};
        e.promise(35);
        e.says("A cut across: LAYERS of a CANDLE (as layer()) from the first one on come to a sheet, "
                + "as far as it has numbers: how many.");
        e.runOn(two, "sheet(0, 8, 3)", "write(0, 2, 77)", "show(0, 0) = 2", "write(0, 0, 0) = 6", "write(0, 1, 0) = -6",
                "write(0, 2, 0) = 77", "of(0, 1) = 2");
        e.runOn(two, "sheet(0, 16, 2)", "show(0, 0) = 2", "write(0, 1, 0) = -6", "sheet(0, 64, 1)", "show(0, 0) = 1",
                "write(0, 0, 0) = 6", "sheet(0, 64, 0)", "show(0, 0) = 0");
        e.run("candle(0)", "sheet(0, 8, 1)", "write(0, 0, 7)", "show(0, 0) = 0", "write(0, 0, 0) = 7");
        e.runOn(FORTY, "sheet(0, 8, 40)", "show(0, 0) = 40", "write(0, 0, 0) = 9", "write(0, 39, 0) = 9",
                "sheet(0, 8, 39)", "show(0, 0) = 39");
        e.run("candle(5)", "vat(3, 1, 0)", "40 x dip(0, 3)", "sheet(0, 8, 40)", "show(0, 0) = 40",
                "write(0, 39, 0) = -66");
        e.says("BEYOND: no such sheet.");
        beyond(two, "show(?, 0)", -1, 4, "MIN", "MAX");
        beyond(NONE, "show(?, 0)", -1, 4);
        e.says("MISSING.");
        e.runOn(two, "show(0, 0) = MISSING", "show(0, 1) = MISSING", "show(3, -1) = MISSING", "sheet(0, 8, 1)",
                "sheet(0, 0, 1)", "show(0, 0) = MISSING");
        e.says("BEYOND: candle.");
        beyond(new String[] {"candle(0)", "dip(0, 0)", "sheet(0, 8, 1)"}, "show(0, ?)", -1, 1, "MIN", "MAX");
        beyond(new String[] {"sheet(0, 8, 0)"}, "show(0, ?)", 0);
    }

    private static void readAs(String before, int kind, String due, long... numbers) throws Exception {
        String[] steps = new String[numbers.length + 3];
        steps[0] = before;
        steps[1] = "sheet(0, 64, " + numbers.length + ")";
        for (int i = 0; i < numbers.length; i++) {
            steps[i + 2] = "write(0, " + i + ", " + numbers[i] + ")";
        }
        steps[numbers.length + 2] = "read(0, " + kind + ") = " + due;
        e.run(steps);
    }

    private static void read() throws Exception {
        e.promise(36);
        e.says("THE READER: how one was dipped: numbers of a sheet are LAYERS (as layer()) that a new CANDLE of a KIND "
                + "would have by a ROW of as many DIPS:");
        readAs("hours(1)", 0, "0", 6);
        readAs("hours(1)", 0, "3", -6);
        readAs("hours(1)", 1, "51", -18, 18, -18);
        readAs("hours(1)", 2, "3", -5);
        readAs("hours(1)", 3, "48", 6, -3, 3, 3);
        readAs("hours(1)", 4, "0", 10);
        readAs("hours(1)", 5, "51", -18, 19, -20);
        readAs("vat(0, 1, 31)", 0, "0", 6, 9);
        readAs("vat(3, 2, 31)", 0, "4095", -6, -6, -6, -6, -6, -1);
        e.run("10 x candle(0)", "dip(0, 3)", "sheet(0, 8, 2)", "write(0, 0, 6)", "write(0, 1, -6)", "read(0, 0) = 3",
                "count(0) = 10", "vatOf(3, 1) = 48");
        e.run("candle(0)", "dip(0, 0)", "dip(0, 3)", "vat(0, 1, 50)", "vat(3, 1, 50)", "sheet(0, 8, 2)", "show(0, 0)",
                "read(0, 0) = 3");
        e.run("candle(5)", "dip(0, 3)", "most(0, 2) = 95", "sheet(0, 8, 1)", "write(0, 0, 6)", "read(0, 0) = 0",
                "write(0, 0, -18)", "read(0, 5) = 3");
        e.says("the least such ROW as a number (its VATS as digits, four to one, the first DIP's the highest; "
                + "0 for an empty sheet).");
        for (int bits : new int[] {8, 16, 64}) {
            e.run("sheet(0, " + bits + ", 0)", "read(0, 0) = 0", "read(0, 5) = 0");
        }
        readAs("hours(1)", 0, "12", -6, 6);
        readAs("hours(1)", 0, "0", 6, 6, 6, 6, 6, 6);
        readAs("hours(1)", 0, "3072", -6, 6, 6, 6, 6, 6);
        readAs("hours(1)", 0, "3", 6, 6, 6, 6, 6, -6);
        readAs("hours(1)", 0, "4095", -6, -6, -6, -6, -6, -6);
        readAs("vat(0, 2, 0)", 0, "5", 6, 6);
        // The first vat is too cold for 6 behind one dip, so the least row has it once, as early as can be.
        readAs("vat(0, 1, 30)", 0, "5", 6, 6, 6);
        readAs("vat(0, 1, 28)", 0, "81", 6, 6, 9, 6);
        readAs("vat(0, 2, 7)", 0, "4", 6, 6, 1);
        // 0 0 is tried first and leaves the first vat as warm as it was for 0 1 0.
        e.run("vat(0, 1, 32)", "vat(1, 0, 1)", "sheet(0, 8, 3)", "write(0, 0, 6)", "write(0, 1, -6)", "write(0, 2, 6)",
                "read(0, 0) = 4");
        e.says("BEYOND: no such sheet.");
        beyond(NONE, "read(?, 0)", -1, 4, "MIN", "MAX");
        beyond(NONE, "read(?, 6)", -1, 4);
        e.says("MISSING.");
        e.run("read(0, 0) = MISSING", "read(3, 6) = MISSING", "read(3, -1) = MISSING", "sheet(0, 8, 1)",
                "sheet(0, 0, 1)", "read(0, 0) = MISSING");
        e.says("BEYOND: kind.");
        beyond(new String[] {"sheet(0, 8, 1)"}, "read(0, ?)", -1, 6, "MIN", "MAX");
        beyond(new String[] {"sheet(0, 8, 7)"}, "read(0, ?)", -1, 6);
        e.says("SIZE: more than 6 numbers.");
        readAs("hours(1)", 0, "0", 6, 6, 6, 6, 6, 6);
        readAs("hours(1)", 0, "SIZE", 6, 6, 6, 6, 6, 6, 6);
        e.run("sheet(0, 8, 7)", "read(0, 0) = SIZE", "sheet(0, 8, 40)", "read(0, 5) = SIZE");
        e.says("NONE: by no ROW.");
        readAs("hours(1)", 0, "NONE", 7);
        readAs("hours(1)", 0, "NONE", 0);
        readAs("hours(1)", 0, "NONE", 6, 0);
        readAs("hours(1)", 0, "NONE", 6, 4294967302L);
        readAs("hours(1)", 0, "NONE", 4294967296L - 6);
        readAs("vat(1, 1, 99)", 0, "NONE", 6, 1);
        readAs("vat(0, 2, 0)", 0, "NONE", 0);
        readAs("vat(3, 2, 31)", 0, "NONE", -6, -6, -6, -6, -6, -6);
        readAs("hours(1)", 3, "NONE", 6, 6);
        readAs("hours(1)", 5, "NONE", 18, 18);
    }

    private static void image() throws Exception {
        e.promise(37);
        e.says("All that section 1 tells (THE TAPE not) is kept: 1.");
        e.run("image() = 1", "image() = 1", "status(-1) = 0");
        e.run("candle(5)", "dip(0, 3)", "dip(0, 0)", "candle(2)", "vat(1, 0, 1)", "vat(1, 1, 7)", "vat(1, 2, 77)",
                "vat(1, 3, 1)", "let(0, 9)", "let(1, 1)", "hours(4)", "image() = 1", "hours(3)", "let(0, 800)",
                "let(1, 8)", "vat(1, 0, 0)", "vat(1, 1, 8)", "vat(1, 2, 88)", "vat(1, 3, 0)", "vat(0, 3, 1)",
                "burn(0, 57)", "turn(0, 1)", "turn(1, 3)", "dip(1, 0)", "candle(0)", "undo() = 2", "now(0) = 4",
                "now(1) = 5", "now(2) = 1", "vatOf(1, 0) = 1", "vatOf(1, 1) = 47", "vatOf(1, 2) = 77", "count(3) = 2",
                "of(0, 0) = 5", "of(0, 1) = 2", "layer(0, 0) = -18", "layer(0, 1) = 19", "of(0, 3) = 18",
                "of(1, 0) = 2", "of(1, 1) = 0", "count(0) = 2");
        e.run("tape: star", "sheet(0, 8, 1)", "write(0, 0, 3)", "image()", "tape: ;rush", "write(0, 0, 4)",
                "sheet(1, 16, 1)", "undo() = 0", "count(2) = 9", "write(0, 0, 0) = 4", "write(1, 0, 0) = 0",
                "text() = 2", "count(0) = 2");
        e.runOn(FORTY, "9 x candle(4)", "image() = 1", "melt(0, 0)", "undo() = 10", "of(0, 1) = 40",
                "layer(0, 39) = 9", "dip(0, 0) = STATE", "candle(0) = FULL");
        e.run("candle(0)", "image()", "dip(0, 0)", "undo()", "of(0, 1) = 0", "dip(0, 3) = 6", "undo()", "of(0, 2) = 0");
    }

    private static void undo() throws Exception {
        e.promise(38);
        e.says("It becomes what was kept latest (which stays): how many CANDLES.");
        e.run("image()", "candle(0)", "image()", "candle(0)", "candle(0)", "undo() = 1", "count(0) = 1", "candle(0)",
                "undo() = 1", "undo() = 1", "count(0) = 1");
        e.run("image()", "undo() = 0", "count(0) = 0", "enough(0) = 0");
        e.run("candle(0)", "9 x candle(1)", "image()", "undo() = 10");
        e.run("image()", "49 x hours(200)", "hours(199)", "hours(1) = STATE", "undo() = 0", "now(0) = 0",
                "hours(200) = 0", "now(0) = 200", "status(4) = 1");
        e.says("NONE: nothing is kept.");
        e.run("undo() = NONE", "candle(0)", "undo() = NONE", "count(0) = 1", "image()", "undo() = 1", "tear() = 1",
                "undo() = NONE", "image()", "undo() = 1");
    }

    private static void tear() throws Exception {
        e.promise(39);
        e.says("Nothing is kept: 1 if something was, else 0.");
        e.run("tear() = 0", "tear() = 0", "image()", "image()", "tear() = 1", "tear() = 0", "undo() = NONE", "image()",
                "undo() = 0", "tear() = 1", "status(-1) = 1");
        e.run("candle(0)", "dip(0, 0)", "image()", "tear() = 1", "of(0, 2) = 6", "count(0) = 1");
    }

    private static void count() throws Exception {
        e.promise(40);
        e.says("0 CANDLES, 1 LAYERS of all together, 2 bytes of THE TAPE, 3 VATS with FIRE, as a set.");
        e.run("count(0) = 0", "count(1) = 0", "count(2) = 0", "count(3) = 0", "candle(0)", "candle(5)", "dip(0, 0)",
                "dip(1, 0)", "dip(1, 3)", "feed(0, 3)", "vat(1, 3, 1)", "vat(3, 3, 1)", "count(0) = 2", "count(1) = 3",
                "count(2) = 3", "count(3) = 10", "vat(0, 3, 1)", "vat(2, 3, 1)", "vat(3, 3, 0)", "count(3) = 7");
        e.runOn(FORTY, "9 x candle(0)", "dip(9, 1)", "count(0) = 10", "count(1) = 41", "30 x feed(0, 4)",
                "count(2) = 120");
        e.says("BEYOND: another what.");
        beyond(NONE, "count(?)", -1, 4, "MIN", "MAX");
    }

    private static void status() throws Exception {
        e.promise(41);
        e.says("How many acts answered a finding ever (undo() takes none back): which -1: all, 0 to 6: BEYOND to SIZE.");
        e.run("status(-1) = 0", "status(0) = 0", "status(1) = 0", "status(2) = 0", "status(3) = 0", "status(4) = 0",
                "status(5) = 0", "status(6) = 0");
        e.run("candle(6)", "status(0) = 1", "10 x candle(0)", "2 x candle(0)", "status(1) = 2", "3 x as(0, 1)",
                "status(2) = 3", "4 x undo()", "status(3) = 4", "5 x when(0, 99)", "status(3) = 9",
                "6 x write(0, 0, 0)", "status(5) = 6", "7 x sheet(0, 8, -1)", "status(6) = 7", "status(4) = 0",
                "status(-1) = 28", "status(0) = 1");
        e.run("49 x hours(200)", "2 x hours(200)", "status(4) = 2", "status(-1) = 2");
        e.run("image()", "candle(6)", "undo() = 0", "status(0) = 1", "status(-1) = 1", "tear()", "status(-1) = 1");
        e.run("sheet(0, 64, 1)", "write(0, 0, -1000000001)", "write(0, 0, 0)", "status(-1) = 0", "text()",
                "status(-1) = 0", "sheet(0, 0, 0)", "write(0, 0, 0)", "status(-1) = 1", "status(5) = 1");
        e.says("BEYOND (counted from then on): another one.");
        e.run("status(7) = BEYOND", "status(0) = 1", "status(-1) = 1", "status(-2) = BEYOND", "status(0) = 2",
                "status(-1) = 2", "status(MIN) = BEYOND", "status(MAX) = BEYOND", "status(-1) = 4", "status(6) = 0");
    }
}
