import java.util.List;

/** Promises 37 to 41. */
public final class ImagesTest {
    private static final Check CHECK = new Check();

    public static void main(String[] args) {
        imageAndUndo();
        notKept();
        tear();
        count();
        status();
        CHECK.end("ImagesTest");
    }

    private static void changeAll(FortyDips x) {
        for (int v = 0; v < 4; v++) {
            x.vat(v, 0, 1 - x.vatOf(v, 0));
            x.vat(v, 1, 90 + v);
            x.vat(v, 2, 5 + v);
            x.vat(v, 3, 1 - x.vatOf(v, 3));
        }
        x.hours(3);
        x.let(0, 17);
        x.let(1, 7);
        for (int c = 0; c < x.count(0); c++) {
            x.turn(c, 5 - x.of(c, 0));
            x.burn(c, 20);
            x.dip(c, 2);
        }
        x.candle(4);
    }

    private static void imageAndUndo() {
        FortyDips x = Check.with(1);
        x.candle(2);
        x.dip(0, 0);
        x.dip(0, 3);
        x.dip(1, 3);
        x.hours(5);
        List<Long> before = Check.seen(x);
        CHECK.tells("37: image()", x, 1, y -> y.image());
        for (int round = 0; round < 2; round++) {
            changeAll(x);
            CHECK.due("38: it has changed", before.equals(Check.seen(x)) ? 1 : 0, 0);
            CHECK.due("38: undo()", x.undo(), 2);
            CHECK.due("38: all as kept, which stays", before.equals(Check.seen(x)) ? 1 : 0, 1);
        }
        changeAll(x);
        List<Long> second = Check.seen(x);
        CHECK.due("37: image() again", x.image(), 1);
        x.melt(0, 0);
        x.candle(0);
        CHECK.due("38: the latest", x.undo(), 3);
        CHECK.due("38: all as kept latest", second.equals(Check.seen(x)) ? 1 : 0, 1);
    }

    private static void notKept() {
        FortyDips x = Check.with(0);
        x.sheet(0, 8, 1);
        x.write(0, 0, 3);
        Check.feed(x, "star");
        x.image();
        x.write(0, 0, 4);
        x.sheet(1, 8, 1);
        Check.feed(x, ";rush");
        x.of(5, 5);
        x.undo();
        CHECK.due("38: a sheet stays", x.write(0, 0, 0), 4);
        CHECK.due("38: a sheet stays", x.write(1, 0, 0), 0);
        CHECK.due("38: the tape stays", x.count(2), 9);
        CHECK.due("38: status stays", x.status(-1), 1);
        CHECK.due("38: a text behind it", x.text(), 2);
    }

    private static void tear() {
        FortyDips x = Check.with(0);
        CHECK.finds("38: nothing is kept", x, Check.NONE, y -> y.undo());
        CHECK.tells("39: tear()", x, 0, y -> y.tear());
        x.image();
        x.image();
        CHECK.tells("39: tear()", x, 1, y -> y.tear());
        CHECK.tells("39: tear() again", x, 0, y -> y.tear());
        CHECK.finds("39: nothing is kept", x, Check.NONE, y -> y.undo());
    }

    private static void count() {
        FortyDips x = Check.with(0);
        x.candle(5);
        x.dip(0, 0);
        x.dip(1, 0);
        x.dip(1, 3);
        x.feed(0, 3);
        x.vat(1, 3, 1);
        x.vat(3, 3, 1);
        CHECK.tells("40: count(0)", x, 2, y -> y.count(0));
        CHECK.tells("40: count(1)", x, 3, y -> y.count(1));
        CHECK.tells("40: count(2)", x, 3, y -> y.count(2));
        CHECK.tells("40: count(3)", x, 10, y -> y.count(3));
        CHECK.finds("40: count(4)", x, Check.BEYOND, y -> y.count(4));
        CHECK.finds("40: count(-1)", x, Check.BEYOND, y -> y.count(-1));
    }

    private static void status() {
        FortyDips x = new FortyDips();
        for (int which = -1; which < 7; which++) {
            CHECK.due("41: at first", x.status(which), 0);
        }
        x.candle(6);
        x.candle(7);
        for (int i = 0; i < 10; i++) {
            x.candle(0);
        }
        x.candle(0);
        x.as(0, 1);
        x.as(0, 2);
        x.as(0, 3);
        x.undo();
        x.write(0, 0, 0);
        x.sheet(0, 8, -1);
        x.sheet(0, 8, -2);
        for (int i = 0; i < 49; i++) {
            x.hours(200);
        }
        x.hours(200);
        int[] want = {2, 1, 3, 1, 1, 1, 2};
        for (int which = 0; which < 7; which++) {
            CHECK.due("41: status(" + which + ")", x.status(which), want[which]);
        }
        CHECK.due("41: status(-1)", x.status(-1), 11);
        CHECK.due("41: status(7)", x.status(7), Check.BEYOND);
        CHECK.due("41: status(-2)", x.status(-2), Check.BEYOND);
        CHECK.due("41: counted from then on", x.status(0), 4);
        CHECK.due("41: counted from then on", x.status(-1), 13);
        x.text();
        CHECK.due("41: a fault is none", x.status(-1), 13);
    }
}
