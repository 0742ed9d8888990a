/** Promises 14 to 18. */
public final class HoursTest {
    private static final Check CHECK = new Check();

    public static void main(String[] args) {
        hours();
        hoursWithLittleWood();
        now();
        warm();
        when();
        takesIn();
        CHECK.end("HoursTest");
    }

    private static FortyDips atHour(int hour) {
        FortyDips x = Check.with(0);
        int left = hour;
        for (int round = 0; round < 60 && left > 0; round++) {
            int n = Math.min(200, left);
            x.hours(n);
            left -= n;
        }
        return x;
    }

    private static void hours() {
        FortyDips x = new FortyDips();
        x.vat(1, 3, 1);
        CHECK.due("14: hours(1)", x.hours(1), 1);
        CHECK.due("14: with fire", x.vatOf(1, 1), 60);
        CHECK.due("14: without", x.vatOf(0, 1), 48);
        CHECK.due("14: hour", x.now(0), 1);
        CHECK.due("14: hours(4)", x.hours(4), 4);
        CHECK.due("14: 99 at most", x.vatOf(1, 1), 99);
        CHECK.due("14: wood for nothing", x.hours(2), 2);
        CHECK.due("14: wood", x.now(1), 43);
        CHECK.due("14: hours(200)", x.hours(200), 43);
        CHECK.due("14: 0 at least", x.vatOf(0, 1), 0);
        CHECK.due("14: fire stays", x.vatOf(1, 3), 1);
        CHECK.finds("14: hours(0)", x, Check.BEYOND, y -> y.hours(0));
        CHECK.finds("14: hours(201)", x, Check.BEYOND, y -> y.hours(201));
        FortyDips late = atHour(9990);
        CHECK.due("14: late", late.now(0), 9990);
        CHECK.finds("14: hours(10), late", late, Check.STATE, y -> y.hours(10));
        CHECK.finds("14: BEYOND ahead of STATE", late, Check.BEYOND, y -> y.hours(201));
        CHECK.due("14: hours(9), late", late.hours(9), 0);
        CHECK.finds("14: hours(1), at last", late, Check.STATE, y -> y.hours(1));
    }

    private static void hoursWithLittleWood() {
        FortyDips x = new FortyDips();
        for (int v = 0; v < 4; v++) {
            x.vat(v, 3, 1);
        }
        x.let(0, 6);
        CHECK.due("14: by numbers", x.hours(2), 6);
        CHECK.due("14: first", x.vatOf(0, 1), 70);
        CHECK.due("14: second", x.vatOf(1, 1), 70);
        CHECK.due("14: third", x.vatOf(2, 1), 58);
        CHECK.due("14: fourth", x.vatOf(3, 1), 58);
    }

    private static void now() {
        FortyDips x = Check.with(0);
        x.candle(1);
        x.dip(0, 0);
        x.dip(1, 3);
        x.hours(3);
        x.let(0, 7);
        x.let(1, 4);
        CHECK.tells("15: now(0)", x, 3, y -> y.now(0));
        CHECK.tells("15: now(1)", x, 7, y -> y.now(1));
        CHECK.tells("15: now(2)", x, 4, y -> y.now(2));
        CHECK.tells("15: now(3)", x, 8000 - 24, y -> y.now(3));
        CHECK.tells("15: now(4)", x, 24, y -> y.now(4));
        CHECK.finds("15: now(5)", x, Check.BEYOND, y -> y.now(5));
        CHECK.finds("15: now(-1)", x, Check.BEYOND, y -> y.now(-1));
    }

    private static void warm() {
        FortyDips x = new FortyDips();
        x.vat(0, 3, 1);
        x.vat(1, 3, 1);
        x.let(0, 5);
        CHECK.tells("16: warm(1, 0)", x, 50, y -> y.warm(1, 0));
        CHECK.tells("16: warm(1, 2)", x, 70, y -> y.warm(1, 2));
        CHECK.tells("16: wood is gone by the other one", x, 68, y -> y.warm(1, 3));
        CHECK.tells("16: warm(0, 3)", x, 80, y -> y.warm(0, 3));
        CHECK.tells("16: warm(2, 200)", x, 0, y -> y.warm(2, 200));
        CHECK.finds("16: warm(0, 201)", x, Check.BEYOND, y -> y.warm(0, 201));
        CHECK.finds("16: warm(0, -1)", x, Check.BEYOND, y -> y.warm(0, -1));
        CHECK.finds("16: warm(4, 0)", x, Check.BEYOND, y -> y.warm(4, 0));
        FortyDips late = atHour(9900);
        CHECK.tells("16: warm(0, 99), late", late, 0, y -> y.warm(0, 99));
        CHECK.finds("16: warm(0, 100), late", late, Check.STATE, y -> y.warm(0, 100));
        CHECK.finds("16: BEYOND ahead of STATE", late, Check.BEYOND, y -> y.warm(0, 201));
    }

    private static void when() {
        FortyDips x = new FortyDips();
        x.vat(2, 3, 1);
        CHECK.tells("17: when(2, 50)", x, 0, y -> y.when(2, 50));
        CHECK.tells("17: when(2, 51)", x, 1, y -> y.when(2, 51));
        CHECK.tells("17: when(2, 99)", x, 5, y -> y.when(2, 99));
        CHECK.finds("17: when(0, 51)", x, Check.NONE, y -> y.when(0, 51));
        CHECK.finds("17: when(0, 100)", x, Check.BEYOND, y -> y.when(0, 100));
        CHECK.finds("17: when(0, -1)", x, Check.BEYOND, y -> y.when(0, -1));
        CHECK.finds("17: when(4, 0)", x, Check.BEYOND, y -> y.when(4, 0));
        CHECK.tells("17: at hour 9799", atHour(9799), 0, y -> y.when(0, 0));
        FortyDips late = atHour(9800);
        CHECK.finds("17: at hour 9800", late, Check.STATE, y -> y.when(0, 0));
        CHECK.finds("17: BEYOND ahead of STATE", late, Check.BEYOND, y -> y.when(0, 100));
    }

    private static void takesIn() {
        FortyDips x = Check.with(0);
        x.vat(1, 1, 99);
        x.let(1, 1);
        CHECK.tells("18: takesIn(0, 0, 6)", x, 0, y -> y.takesIn(0, 0, 6));
        CHECK.tells("18: takesIn(0, 1, 1)", x, 20, y -> y.takesIn(0, 1, 1));
        CHECK.tells("18: takesIn(0, 1, 4)", x, 20, y -> y.takesIn(0, 1, 4));
        CHECK.tells("18: takesIn(0, 1, 5)", x, 40, y -> y.takesIn(0, 1, 5));
        CHECK.tells("18: takesIn(0, 1, 9)", x, 70, y -> y.takesIn(0, 1, 9));
        CHECK.finds("18: takesIn(0, 1, 10)", x, Check.NONE, y -> y.takesIn(0, 1, 10));
        x.let(1, 0);
        CHECK.finds("18: no draught", x, Check.NONE, y -> y.takesIn(0, 1, 1));
        CHECK.finds("18: takesIn(0, 1, 0)", x, Check.BEYOND, y -> y.takesIn(0, 1, 0));
        CHECK.finds("18: takesIn(0, 1, 100)", x, Check.BEYOND, y -> y.takesIn(0, 1, 100));
        CHECK.finds("18: takesIn(0, 4, 1)", x, Check.BEYOND, y -> y.takesIn(0, 4, 1));
        CHECK.finds("18: takesIn(1, 0, 1)", x, Check.BEYOND, y -> y.takesIn(1, 0, 1));
        CHECK.tells("18: at hour 9799", atHour(9799), 0, y -> y.takesIn(0, 0, 9));
        FortyDips late = atHour(9800);
        CHECK.finds("18: at hour 9800", late, Check.STATE, y -> y.takesIn(0, 0, 9));
        CHECK.finds("18: BEYOND ahead of STATE", late, Check.BEYOND, y -> y.takesIn(0, 0, 100));
        theLastHour();
    }

    private static void theLastHour() {
        FortyDips x = Check.with(0);
        x.let(1, 0);
        x.vat(0, 3, 1);
        x.let(0, 196);
        x.let(1, 1);
        x.vat(0, 1, 99);
        // Wood for 196 hours, then 1 less in each: 95 in hour 200.
        CHECK.tells("18: warm(0, 200)", x, 95, y -> y.warm(0, 200));
        x.let(0, 180);
        CHECK.tells("18: in 200 hours just", x, 200, y -> y.takesIn(0, 0, 4));
        x.let(0, 181);
        CHECK.finds("18: in 201 hours", x, Check.NONE, y -> y.takesIn(0, 0, 4));
    }
}
