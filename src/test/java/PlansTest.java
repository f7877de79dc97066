/** Promises 31 to 34: plans, notes. */
public final class PlansTest {
    private static final Due DUE = new Due("PlansTest");

    private PlansTest() {
    }

    public static void main(String[] args) {
        plan();
        done();
        doneOnDays();
        note();
        looked();
        DUE.end();
    }

    private static void plan() {
        ThickerBook x = new ThickerBook();
        DUE.is("none", x.plan(-1, 77), 0);
        DUE.is("nobody COMES", x.plan(0, 0), -1);
        DUE.is("a DAY goes by nobody", x.plan(3, -9), 1);
        x.reader(0, 0);
        DUE.is("plan(0, 0)", x.plan(0, 0), 2);
        DUE.is("plan(1, 0)", x.plan(1, 0), 3);
        DUE.is("plan(2, 0)", x.plan(2, 0), 4);
        DUE.is("plan(0, 1)", x.plan(0, 1), -1);
        DUE.is("plan(1, 1)", x.plan(1, 1), -1);
        DUE.is("plan(2, -1)", x.plan(2, -1), -1);
        DUE.is("plan(4, 0)", x.plan(4, 0), -1);
        DUE.is("plan(-2, 0)", x.plan(-2, 0), -1);
        for (int n = 5; n <= 8; n++) {
            DUE.is("plan " + n, x.plan(3, 0), n);
        }
        DUE.is("FULL", x.plan(3, 0), -4);
        DUE.is("NONE ahead of FULL", x.plan(0, 1), -1);
        DUE.is("count", x.count(4), 8);
        DUE.is("none then", x.plan(-1, 0), 0);
        DUE.is("count", x.count(4), 0);
    }

    private static void done() {
        ThickerBook x = new ThickerBook();
        Calls.books(x, 30, 40, 20, 50);
        Calls.readers(x, 0, 0, 1, 0, 5, 0);
        Calls.lend(x, 0, 3);
        Calls.town(x, "paste 6;love 4 b=1");
        DUE.is("no PLAN: TOTAL", x.done(0), -50 / 5);
        DUE.is("no PLAN: ON THE SHELF", x.done(1), Calls.bits(1, 2));
        x.plan(0, 0);
        DUE.is("not THICK enough", x.done(1), Calls.bits(1, 2));
        x.plan(1, 0);
        x.plan(1, 0);
        x.plan(0, 0);
        DUE.is("42 for 40", x.done(1), Calls.bits(0, 2));
        DUE.is("TOTAL", x.done(0), 4 - 10);
        x.plan(2, 1);
        x.plan(2, 2);
        DUE.is("44 for 50; who HAS none does nothing", x.done(0), 4 - 8);
        x.plan(0, 1);
        // THIN takes book 2 of 20.
        DUE.is("ON THE SHELF", x.done(1), Calls.bits(0, 3));
        DUE.is("TOTAL", x.done(0), 4 - 4);
        DUE.is("done(2)", x.done(2), -10001);
        DUE.is("done(-1)", x.done(-1), -10001);
        DUE.is("changes nothing", x.at(0, 0), 30);
        DUE.is("changes nothing", x.told(4), Calls.bits(1, 2));
    }

    private static void doneOnDays() {
        ThickerBook x = new ThickerBook();
        Calls.books(x, 30, 20);
        Calls.readers(x, 0, 0, 0, 0);
        x.lend(0, 0);
        // By THICK, too: torn below 10 book 1 is not liked, but book 0 is.
        Calls.town(x, "love 3 b=1&d=2;love 9 d=3;bore 5 b=0&t<3");
        x.plan(3, 0);
        x.plan(3, 5);
        DUE.is("DAY 2 has not come", x.done(1), 2);
        x.plan(3, 0);
        DUE.is("DAY 2", x.done(1), 1);
        DUE.is("TOTAL on DAY 3", x.done(0), 9);
        x.plan(-1, 0);
        x.plan(2, 0);
        DUE.is("torn to 25: t is 2", x.done(0), -5);
        x.plan(0, 0);
        DUE.is("so it takes book 1", x.done(1), 1);
        DUE.is("DAY stays", x.told(0), 0);
    }

    private static void note() {
        ThickerBook x = new ThickerBook();
        DUE.is("none", x.note(-1, 99), 0);
        DUE.is("note(0, 0)", x.note(0, 0), -1);
        x.book(3);
        x.reader(0, 0);
        DUE.is("note(0, 1)", x.note(0, 1), -1);
        DUE.is("note(1, 0)", x.note(1, 0), -1);
        DUE.is("note(0, -1)", x.note(0, -1), -1);
        DUE.is("note(-2, 0)", x.note(-2, 0), -1);
        for (int n = 1; n <= 8; n++) {
            DUE.is("note " + n, x.note(0, 0), n);
        }
        DUE.is("FULL", x.note(0, 0), -4);
        DUE.is("NONE ahead of FULL", x.note(0, 1), -1);
        DUE.is("count", x.count(5), 8);
        DUE.is("none then", x.note(-1, -1), 0);
        DUE.is("count", x.count(5), 0);
    }

    private static void looked() {
        ThickerBook x = new ThickerBook();
        Calls.books(x, 3, 4);
        Calls.readers(x, 0, 0, 0, 0);
        Calls.lend(x, 0, 1);
        DUE.is("no NOTES", x.looked(), -5);
        x.lend(0, -1);
        DUE.is("no NOTES, HAS none", x.looked(), -5);
        x.lend(0, 0);
        x.note(1, 1);
        x.note(0, 0);
        DUE.is("all so", x.looked(), -5);
        x.note(0, 1);
        DUE.is("the third", x.looked(), 2);
        x.lend(0, -1);
        DUE.is("HAS none", x.looked(), 1);
        x.lend(1, 0);
        DUE.is("HAS another", x.looked(), 0);
    }
}
