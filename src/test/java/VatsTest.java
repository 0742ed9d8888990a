/** Promises 1 to 4. */
public final class VatsTest {
    private static final Check CHECK = new Check();

    public static void main(String[] args) {
        newObject();
        vatOf();
        vat();
        let();
        CHECK.end("VatsTest");
    }

    private static void newObject() {
        FortyDips x = new FortyDips();
        for (int v = 0; v < 4; v++) {
            CHECK.due("1: vatOf(" + v + ", 0)", x.vatOf(v, 0), v == 3 ? 1 : 0);
            CHECK.due("1: vatOf(" + v + ", 1)", x.vatOf(v, 1), 50);
            CHECK.due("1: vatOf(" + v + ", 2)", x.vatOf(v, 2), 2000);
            CHECK.due("1: vatOf(" + v + ", 3)", x.vatOf(v, 3), 0);
            CHECK.due("1: sheet is missing", x.write(v, 0, 1), Check.MISSING);
        }
        CHECK.due("1: status(5)", x.status(5), 4);
        CHECK.due("1: status(-1)", x.status(-1), 4);
        CHECK.due("1: now(0)", x.now(0), 0);
        CHECK.due("1: now(1)", x.now(1), 50);
        CHECK.due("1: now(2)", x.now(2), 2);
        CHECK.due("1: count(0)", x.count(0), 0);
        CHECK.due("1: count(2)", x.count(2), 0);
        CHECK.due("1: count(3)", x.count(3), 0);
        CHECK.due("1: undo()", x.undo(), Check.NONE);
        CHECK.due("1: tear()", x.tear(), 0);
    }

    private static void vatOf() {
        FortyDips x = new FortyDips();
        CHECK.finds("2: vatOf(-1, 0)", x, Check.BEYOND, y -> y.vatOf(-1, 0));
        CHECK.finds("2: vatOf(4, 0)", x, Check.BEYOND, y -> y.vatOf(4, 0));
        CHECK.finds("2: vatOf(0, -1)", x, Check.BEYOND, y -> y.vatOf(0, -1));
        CHECK.finds("2: vatOf(0, 4)", x, Check.BEYOND, y -> y.vatOf(0, 4));
        CHECK.tells("2: vatOf(3, 2)", x, 2000, y -> y.vatOf(3, 2));
    }

    private static void vat() {
        FortyDips x = new FortyDips();
        int[] greatest = {1, 99, 99999, 1};
        int[] first = {0, 50, 2000, 0};
        for (int w = 0; w < 4; w++) {
            int what = w;
            CHECK.due("3: vat to its greatest", x.vat(1, what, greatest[what]), first[what]);
            CHECK.due("3: vatOf then", x.vatOf(1, what), greatest[what]);
            CHECK.due("3: another vat stays", x.vatOf(2, what), first[what]);
            CHECK.finds("3: vat above", x, Check.BEYOND, y -> y.vat(1, what, greatest[what] + 1));
            CHECK.finds("3: vat below", x, Check.BEYOND, y -> y.vat(1, what, -1));
            CHECK.due("3: vat to its least", x.vat(1, what, 0), greatest[what]);
            CHECK.due("3: vatOf at last", x.vatOf(1, what), 0);
        }
        CHECK.finds("3: vat(4, 1, 1)", x, Check.BEYOND, y -> y.vat(4, 1, 1));
        CHECK.finds("3: vat(-1, 1, 1)", x, Check.BEYOND, y -> y.vat(-1, 1, 1));
        CHECK.finds("3: vat(0, 4, 0)", x, Check.BEYOND, y -> y.vat(0, 4, 0));
        CHECK.finds("3: vat(0, -1, 0)", x, Check.BEYOND, y -> y.vat(0, -1, 0));
    }

    private static void let() {
        FortyDips x = new FortyDips();
        CHECK.due("4: let(0, 9999)", x.let(0, 9999), 50);
        CHECK.due("4: let(0, 0)", x.let(0, 0), 9999);
        CHECK.due("4: now(1)", x.now(1), 0);
        CHECK.due("4: let(1, 9)", x.let(1, 9), 2);
        CHECK.due("4: let(1, 0)", x.let(1, 0), 9);
        CHECK.due("4: now(2)", x.now(2), 0);
        CHECK.finds("4: let(0, 10000)", x, Check.BEYOND, y -> y.let(0, 10000));
        CHECK.finds("4: let(0, -1)", x, Check.BEYOND, y -> y.let(0, -1));
        CHECK.finds("4: let(1, 10)", x, Check.BEYOND, y -> y.let(1, 10));
        CHECK.finds("4: let(1, -1)", x, Check.BEYOND, y -> y.let(1, -1));
        CHECK.finds("4: let(2, 0)", x, Check.BEYOND, y -> y.let(2, 0));
        CHECK.finds("4: let(-1, 0)", x, Check.BEYOND, y -> y.let(-1, 0));
    }
}
