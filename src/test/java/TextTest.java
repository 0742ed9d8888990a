/** Promises 28 to 30. */
public final class TextTest {
    private static final Check CHECK = new Check();

    public static void main(String[] args) {
        feed();
        wipe();
        items();
        vats();
        dips();
        tokens();
        faults();
        faultsOfNumbers();
        anEleventh();
        aFaultChangesNothing();
        CHECK.end("TextTest");
    }

    private static void feed() {
        FortyDips x = new FortyDips();
        CHECK.due("28: the highest first", x.feed(('w' << 24) | ('o' << 16) | ('o' << 8) | 'd', 4), 4);
        CHECK.due("28: the lowest of them", x.feed((0x55 << 16) | (' ' << 8) | '7', 2), 6);
        CHECK.due("28: text", x.text(), 1);
        CHECK.due("28: wood", x.now(1), 7);
        CHECK.due("28: below 0", x.feed(-1, 1), 1);
        CHECK.due("28: no token", x.text(), -1);
        CHECK.finds("28: feed(0, 0)", x, Check.BEYOND, y -> y.feed(0, 0));
        CHECK.finds("28: feed(0, 5)", x, Check.BEYOND, y -> y.feed(0, 5));
        for (int i = 1; i <= 29; i++) {
            CHECK.due("28: feed", x.feed(0, 4), 4 * i);
        }
        CHECK.due("28: feed", x.feed(0, 1), 117);
        CHECK.finds("28: no room for all four", x, Check.FULL, y -> y.feed(0, 4));
        CHECK.due("28: up to 120", x.feed(0, 3), 120);
        CHECK.finds("28: a 121st", x, Check.FULL, y -> y.feed(0, 1));
        CHECK.finds("28: BEYOND ahead of FULL", x, Check.BEYOND, y -> y.feed(0, 5));
    }

    private static void wipe() {
        FortyDips x = new FortyDips();
        CHECK.due("29: wipe nothing", x.wipe(), 0);
        Check.feed(x, "candle");
        CHECK.due("29: wipe", x.wipe(), 6);
        CHECK.due("29: count(2)", x.count(2), 0);
        CHECK.due("29: wipe again", x.wipe(), 0);
        CHECK.due("29: nothing is left of it", x.text(), -1);
        Check.feed(x, "star");
        CHECK.due("29: text behind it", x.text(), 1);
    }

    private static void items() {
        FortyDips x = new FortyDips();
        CHECK.due("30: all kinds", Check.told(x, "candle;star;altar;rush;paschal;triple"), 6);
        for (int kind = 0; kind < 6; kind++) {
            CHECK.due("30: of kind", x.of(kind, 0), kind);
            CHECK.due("30: without layers", x.of(kind, 1), 0);
        }
        CHECK.due("30: the tape is empty", x.count(2), 0);
        CHECK.due("30: wood and draught", Check.told(x, "wood 9999 ; draught 9"), 2);
        CHECK.due("30: wood", x.now(1), 9999);
        CHECK.due("30: draught", x.now(2), 9);
        CHECK.due("30: the last counts", Check.told(x, "wood 1;wood 2;wood 0;draught 0"), 4);
        CHECK.due("30: wood", x.now(1), 0);
        CHECK.due("30: draught", x.now(2), 0);
        CHECK.due("30: to what there is", Check.told(x, "candle"), 1);
        CHECK.due("30: seven", x.count(0), 7);
        CHECK.due("30: nothing found", x.status(-1), 0);
    }

    private static void vats() {
        FortyDips x = new FortyDips();
        CHECK.tells("30: a vat, nothing said of it", x, 1, y -> Check.told(y, "vat 2"));
        CHECK.due("30: all of a vat", Check.told(x, "vat 2 wax warm 99 holds 99999 fire"), 1);
        CHECK.due("30: wax", x.vatOf(2, 0), 1);
        CHECK.due("30: warm", x.vatOf(2, 1), 99);
        CHECK.due("30: holds", x.vatOf(2, 2), 99999);
        CHECK.due("30: fire", x.vatOf(2, 3), 1);
        CHECK.due("30: back", Check.told(x, "vat 2 tallow warm 0 holds 0 cold"), 1);
        CHECK.due("30: tallow", x.vatOf(2, 0), 0);
        CHECK.due("30: warm", x.vatOf(2, 1), 0);
        CHECK.due("30: holds", x.vatOf(2, 2), 0);
        CHECK.due("30: cold", x.vatOf(2, 3), 0);
        CHECK.due("30: some of it", Check.told(x, "vat 0 holds 7;vat 1 fire;vat 3 tallow cold;vat 0 warm 3 fire"), 4);
        CHECK.due("30: holds alone", x.vatOf(0, 2), 7);
        CHECK.due("30: fire alone", x.count(3), 3);
        CHECK.due("30: tallow and cold", x.vatOf(3, 0), 0);
        CHECK.due("30: warm and fire", x.vatOf(0, 1), 3);
        CHECK.due("30: out of order", Check.told(x, "vat 0 warm 3 wax"), -1 - 13);
        CHECK.due("30: out of order", Check.told(x, "vat 0 fire holds 3"), -1 - 11);
        CHECK.due("30: out of order", Check.told(x, "vat 0 holds 3 warm 4"), -1 - 14);
        CHECK.due("30: twice", Check.told(x, "vat 0 wax tallow"), -1 - 10);
        CHECK.due("30: twice", Check.told(x, "vat 0 fire cold"), -1 - 11);
    }

    private static void dips() {
        FortyDips x = new FortyDips();
        CHECK.due("30: dip", Check.told(x, "candle; dip 0 in 3; dip 0 in 0; vat 1 warm 99; dip 0 in 1"), 5);
        CHECK.due("30: a layer", x.layer(0, 0), -6);
        CHECK.due("30: what is left", x.layer(0, 1), 1);
        CHECK.due("30: the vat", x.vatOf(1, 2), 2005);
        CHECK.due("30: its warmth", x.vatOf(1, 1), 97);
        CHECK.due("30: one of there", Check.told(x, "dip 0 in 0"), 1);
        CHECK.due("30: layers", x.of(0, 1), 3);
        CHECK.due("30: not there yet", Check.told(x, "dip 1 in 0;candle"), -1 - 4);
        CHECK.due("30: there by then", Check.told(x, "candle;dip 1 in 0"), 2);
        for (int i = 0; i < 37; i++) {
            x.dip(0, 2);
        }
        CHECK.due("30: 40 layers", x.of(0, 1), 40);
        CHECK.tells("30: of one of 40 layers: nothing", x, 2, y -> Check.told(y, "dip 0 in 0;dip 0 in 1"));
        CHECK.due("30: no candle at all", Check.told(new FortyDips(), "dip 0 in 0"), -1 - 4);
    }

    private static void tokens() {
        FortyDips x = new FortyDips();
        CHECK.due("30: blanks", Check.told(x, "  vat   0  warm 7 ;  candle  "), 2);
        CHECK.due("30: no blanks", Check.told(x, "vat1wax warm8holds9fire;dip0in1;wood5"), 3);
        CHECK.due("30: what it did", x.vatOf(1, 2), 0);
        CHECK.due("30: zeros ahead", Check.told(x, "wood 0000000000000000000000009999"), 1);
        CHECK.due("30: wood", x.now(1), 9999);
        CHECK.due("30: words as long as can be", Check.told(x, "candlestar"), -1);
        CHECK.due("30: words as long as can be", Check.told(x, "vat 0 waxwarm 8"), -1 - 6);
        CHECK.due("30: numbers as long as can be", Check.told(x, "vat 00 warm 08"), 1);
        CHECK.due("30: no other blank", Check.told(x, "vat\t0"), -1 - 3);
        CHECK.due("30: no other blank", Check.told(x, "candle\n"), -1 - 6);
        CHECK.due("30: no capitals", Check.told(x, "Candle"), -1);
        CHECK.due("30: no capitals within", Check.told(x, "canDle"), -1);
        CHECK.due("30: byte 0", Check.told(x, "candle\0"), -1 - 6);
        CHECK.due("30: byte 255", Check.told(x, "candle;" + (char) 255), -1 - 7);
        CHECK.due("30: letters up to z", Check.told(x, "candlez"), -1);
        CHECK.due("30: letters from a", Check.told(x, "candlea"), -1);
        CHECK.due("30: no sign below a", Check.told(x, "candle`"), -1 - 6);
        CHECK.due("30: no sign above z", Check.told(x, "candle{"), -1 - 6);
        CHECK.due("30: no sign below 0", Check.told(x, "wood 1/"), -1 - 6);
        CHECK.due("30: no sign above 9", Check.told(x, "wood 1:"), -1 - 6);
        CHECK.due("30: nothing of an earlier text", Check.told(x, "wood 123456"), -1 - 5);
        CHECK.due("30: nothing of an earlier text", Check.told(x, "wood 12"), 1);
        CHECK.due("30: wood", x.now(1), 12);
        CHECK.due("30: 120 bytes", Check.told(x, "wood 3" + " ".repeat(104) + "; draught "), -1 - 120);
        CHECK.due("30: 120 bytes", Check.told(x, "wood 3;" + " ".repeat(104) + "draught 7"), 2);
        CHECK.due("30: draught", x.now(2), 7);
        CHECK.due("30: a part of a word", Check.told(x, "candl"), -1);
        CHECK.due("30: more than a word", Check.told(x, "candles"), -1);
    }

    private static void faults() {
        FortyDips x = Check.with(0);
        CHECK.due("30: empty", x.text(), -1);
        CHECK.due("30: blanks alone", Check.told(x, "   "), -1 - 3);
        CHECK.due("30: a sign alone", Check.told(x, ";"), -1);
        CHECK.due("30: a sign at the end", Check.told(x, "candle; "), -1 - 8);
        CHECK.due("30: two signs", Check.told(x, "candle;;candle"), -1 - 7);
        CHECK.due("30: no sign", Check.told(x, "candle candle"), -1 - 7);
        CHECK.due("30: a number first", Check.told(x, "7"), -1);
        CHECK.due("30: another word", Check.told(x, " in"), -1 - 1);
        CHECK.due("30: vat without", Check.told(x, "vat"), -1 - 3);
        CHECK.due("30: vat and a word", Check.told(x, "vat wax"), -1 - 4);
        CHECK.due("30: warm without", Check.told(x, "vat 0 warm "), -1 - 11);
        CHECK.due("30: warm and a word", Check.told(x, "vat 0 warm fire"), -1 - 11);
        CHECK.due("30: holds without", Check.told(x, "vat 0 holds"), -1 - 11);
        CHECK.due("30: holds and a sign", Check.told(x, "vat 0 holds ;"), -1 - 12);
        CHECK.due("30: a number behind a vat", Check.told(x, "vat 0 7"), -1 - 6);
        CHECK.due("30: dip without", Check.told(x, "dip"), -1 - 3);
        CHECK.due("30: dip and no more", Check.told(x, "dip 0"), -1 - 5);
        CHECK.due("30: dip and no in", Check.told(x, "dip 0 on 0"), -1 - 6);
        CHECK.due("30: in and no more", Check.told(x, "dip 0 in"), -1 - 8);
        CHECK.due("30: in and a word", Check.told(x, "dip 0 in vat"), -1 - 9);
        CHECK.due("30: wood without", Check.told(x, "wood "), -1 - 5);
        CHECK.due("30: draught without", Check.told(x, "draught"), -1 - 7);
        CHECK.due("30: draught and a word", Check.told(x, "draught in"), -1 - 8);
        CHECK.due("30: the first fault", Check.told(x, "vat 9 ? warm"), -1 - 4);
        CHECK.due("30: no findings", x.status(-1), 0);
        CHECK.due("30: one candle", x.count(0), 1);
    }

    private static void faultsOfNumbers() {
        FortyDips x = Check.with(0);
        CHECK.due("30: vat 4", Check.told(x, "vat 4"), -1 - 4);
        CHECK.due("30: warm 100", Check.told(x, "vat 0 warm 100"), -1 - 11);
        CHECK.due("30: holds 100000", Check.told(x, "vat 0 holds 100000"), -1 - 12);
        CHECK.due("30: holds 4294967296", Check.told(x, "vat 0 holds 4294967296"), -1 - 12);
        CHECK.due("30: wood 10000", Check.told(x, "wood 10000"), -1 - 5);
        CHECK.due("30: wood 18446744073709551616", Check.told(x, "wood 18446744073709551616"), -1 - 5);
        CHECK.due("30: draught 10", Check.told(x, "draught 10"), -1 - 8);
        CHECK.due("30: dip 1", Check.told(x, "dip 1 in 0"), -1 - 4);
        CHECK.due("30: in 4", Check.told(x, "dip 0 in 4"), -1 - 9);
        CHECK.due("30: below 0", Check.told(x, "wood -1"), -1 - 5);
    }

    private static void anEleventh() {
        FortyDips x = new FortyDips();
        for (int i = 0; i < 8; i++) {
            x.candle(0);
        }
        CHECK.due("30: an 11th", Check.told(x, "rush;rush;star"), -1 - 10);
        CHECK.due("30: eight are left", x.count(0), 8);
        CHECK.due("30: up to ten", Check.told(x, "rush;star"), 2);
        CHECK.due("30: the tenth", x.of(9, 0), 1);
        CHECK.due("30: an 11th", Check.told(x, " wood 3; candle"), -1 - 9);
        CHECK.due("30: no findings", x.status(-1), 0);
    }

    private static void aFaultChangesNothing() {
        FortyDips x = Check.with(0);
        x.dip(0, 0);
        CHECK.tells("30: changes nothing", x, -1 - 76,
                y -> Check.told(y, "vat 0 wax warm 9 holds 8 fire;candle;dip 0 in 1;dip 1 in 3;wood 3;draught 4;"));
        Check.feed(x, "star ?");
        CHECK.due("30: a fault", x.text(), -1 - 5);
        CHECK.due("30: the tape is empty", x.count(2), 0);
        CHECK.due("30: a new text", Check.told(x, "star"), 1);
    }
}
