/** Promises 26 to 30: seen, odds. */
public final class SeenTest {
    private static final Due DUE = new Due("SeenTest");

    private SeenTest() {
    }

    public static void main(String[] args) {
        see();
        had();
        hadByNone();
        hadAnyDays();
        seenOnTheLastDay();
        firm();
        firmByTests();
        odds();
        mean();
        DUE.end();
    }

    private static void see() {
        ThickerBook x = new ThickerBook();
        DUE.is("none", x.see(-1, 99, true), 0);
        DUE.is("no such BOOK", x.see(0, 0, true), -1);
        x.book(5);
        for (int n = 1; n <= 6; n++) {
            DUE.is("see " + n, x.see(0, n == 1 ? 0 : 20, n > 3), n);
        }
        DUE.is("FULL", x.see(0, 0, true), -4);
        DUE.is("BAD ahead of FULL", x.see(0, 21, true), -2);
        DUE.is("NONE ahead of BAD", x.see(1, 21, true), -1);
        DUE.is("see(-2, ..)", x.see(-2, 0, true), -1);
        DUE.is("see(0, -1, ..)", x.see(0, -1, true), -2);
        DUE.is("count", x.count(3), 6);
        DUE.is("none then", x.see(-1, -7, false), 0);
        DUE.is("count", x.count(3), 0);
        DUE.is("again", x.see(0, 0, true), 1);
    }

    private static void had() {
        ThickerBook x = new ThickerBook();
        Calls.books(x, 50, 40, 30, 20);
        Calls.readers(x, 1, 0, 0, 0);
        Calls.lend(x, 0, 1);
        DUE.is("nothing is SEEN", x.had(0), 15);
        // Reader 0 takes book 3 at once if it is thinner than what it HAS.
        x.see(3, 1, false);
        DUE.is("whatever it HAD", x.had(0), 15);
        x.see(0, 1, true);
        DUE.is("left by reader 0, or never its own but left ON THE SHELF", x.had(0), Calls.bits(0, 2, 3));
        // With book 1 for reader 0, reader 1 HAS book 0 and keeps it.
        x.see(-1, 0, false);
        x.see(0, 1, false);
        DUE.is("the other HAS what it HAD", x.had(0), Calls.bits(1));
        x.see(-1, 0, false);
        x.see(1, 0, true);
        DUE.is("now", x.had(0), 0);
        DUE.is("now, by reader 1", x.had(1), Calls.bits(2, 3));
        DUE.is("changes nothing", x.told(4), Calls.bits(2, 3));
        DUE.is("had(2)", x.had(2), -1);
        DUE.is("had(-1)", x.had(-1), -1);
    }

    /** Who HAS none changes its none with another: that one HAS none. */
    private static void hadByNone() {
        ThickerBook x = new ThickerBook();
        Calls.books(x, 50, 40, 30);
        Calls.readers(x, 0, 0, 1, 0);
        Calls.lend(x, -1, 0);
        // THIN reader 1 would take book 2 on DAY 0, unless it HAS none or that is gone.
        x.see(2, 1, true);
        DUE.is("HAD by none", x.had(0), Calls.bits(0));
        x.see(-1, 0, true);
        x.see(1, 1, false);
        DUE.is("taken or HAD", x.had(0), Calls.bits(1, 2));
    }

    /** All that is SEEN counts, each behind its own DAYS, from the DAY of the asking. */
    private static void hadAnyDays() {
        ThickerBook x = new ThickerBook();
        Calls.books(x, 50, 40, 30);
        Calls.readers(x, 0, 0);
        x.lend(0, 0);
        Calls.town(x, "love 1 b=2&d=5");
        x.see(2, 6, false);
        x.see(2, 5, true);
        DUE.is("taken on DAY 5, if not HAD", x.had(0), Calls.bits(0, 1));
        x.pass(1);
        DUE.is("DAYS are from now", x.had(0), 0);
        x.see(-1, 0, true);
        x.see(2, 20, false);
        x.see(2, 4, true);
        DUE.is("from DAY 1", x.had(0), Calls.bits(0, 1));
    }

    private static void seenOnTheLastDay() {
        ThickerBook x = new ThickerBook();
        Calls.books(x, 50, 40, 30);
        Calls.readers(x, 0, 0, 0, 0);
        Calls.lend(x, 0, 1);
        // Reader 1 takes book 2 on DAY 9, so reader 0 book 1 on DAY 19.
        Calls.town(x, "love 1 d=9&(r=0&b=1|r=1&b=2)");
        x.see(0, 20, true);
        x.see(0, 19, false);
        DUE.is("had(0)", x.had(0), 1);
        DUE.is("firm(0, 0)", x.firm(0, 0), 10);
        x.see(0, 20, false);
        DUE.is("had(0)", x.had(0), 0);
        DUE.is("firm(0, 0)", x.firm(0, 0), 0);
    }

    private static void firm() {
        ThickerBook x = new ThickerBook();
        Calls.books(x, 50, 40);
        Calls.readers(x, 3, 2, 0, 0);
        x.lend(0, 0);
        Calls.town(x, "love 7 b=1");
        DUE.is("nothing is SEEN", x.firm(0, 0), 10);
        DUE.is("the least", x.firm(0, 1), 0);
        x.see(0, 3, false);
        DUE.is("keeps it by 7, 8, 9", x.firm(0, 0), 3);
        DUE.is("the least", x.firm(0, 1), 7);
        DUE.is("another's v does nothing", x.firm(1, 0), 0);
        DUE.is("none", x.firm(1, 1), -5);
        DUE.is("v stays", x.of(0, 1), 2);
        x.see(0, 0, true);
        DUE.is("none at all", x.firm(0, 0), 0);
        DUE.is("no least", x.firm(0, 1), -5);
        DUE.is("firm(2, 0)", x.firm(2, 0), -1);
        DUE.is("firm(-1, 0)", x.firm(-1, 0), -1);
        DUE.is("firm(0, 2)", x.firm(0, 2), -1);
        DUE.is("firm(0, -1)", x.firm(0, -1), -1);
    }

    private static void firmByTests() {
        ThickerBook x = new ThickerBook();
        Calls.books(x, 50, 40);
        Calls.readers(x, 0, 9);
        x.lend(0, 0);
        Calls.town(x, "love 1 b=1&v>2&v<6");
        x.see(1, 1, false);
        DUE.is("v of TESTS", x.firm(0, 0), 3);
        DUE.is("the least", x.firm(0, 1), 3);
    }

    private static void odds() {
        ThickerBook x = new ThickerBook();
        Calls.books(x, 50, 40, 30, 20);
        DUE.is("nobody", x.odds(0, 0), ThickerBook.NO);
        Calls.readers(x, 1, 0, 1, 0, 0, 0, 0, 0);
        Calls.lend(x, 0, 1);
        // Reader 0 takes book 3 and leaves 0; reader 1 takes book 3 and leaves 1; the others do nothing.
        long[][] want = {{1, 4}, {1, 4}, {1, 1}, {1, 2}};
        for (int b = 0; b < 4; b++) {
            DUE.is("odds(" + b + ", 0)", x.odds(b, 0), want[b][0]);
            DUE.is("odds(" + b + ", 1)", x.odds(b, 1), want[b][1]);
        }
        x.lend(2, 2);
        DUE.is("never ON THE SHELF", x.odds(2, 0), 0);
        DUE.is("never ON THE SHELF", x.odds(2, 1), 1);
        DUE.is("odds(4, 0)", x.odds(4, 0), ThickerBook.NO);
        DUE.is("odds(-1, 0)", x.odds(-1, 0), ThickerBook.NO);
        DUE.is("odds(0, 2)", x.odds(0, 2), ThickerBook.NO);
        DUE.is("odds(0, -1)", x.odds(0, -1), ThickerBook.NO);
        DUE.is("changes nothing", x.told(4), 8);
        ThickerBook y = new ThickerBook();
        Calls.books(y, 50);
        Calls.readers(y, 0, 0);
        DUE.is("one: sure", y.odds(0, 0), 1);
        DUE.is("one: sure", y.odds(0, 1), 1);
    }

    private static void mean() {
        ThickerBook x = new ThickerBook();
        DUE.is("no BOOKS", x.mean(0, 0), ThickerBook.NO);
        Calls.books(x, 50, 41, 30, 20);
        Calls.readers(x, 1, 0);
        x.lend(0, 0);
        DUE.is("91 by 3", x.mean(0, 0), 91);
        DUE.is("91 by 3", x.mean(0, 1), 3);
        DUE.is("121 by 3", x.mean(1, 0), 121);
        DUE.is("121 by 3", x.mean(40, 1), 3);
        x.lend(0, 1);
        DUE.is("100 by 3", x.mean(0, 0), 100);
        x.lend(0, 2);
        DUE.is("111 by 3", x.mean(0, 0), 37);
        DUE.is("111 by 3", x.mean(0, 1), 1);
        DUE.is("mean(-1, 0)", x.mean(-1, 0), ThickerBook.NO);
        DUE.is("mean(41, 0)", x.mean(41, 0), ThickerBook.NO);
        DUE.is("mean(0, 2)", x.mean(0, 2), ThickerBook.NO);
        DUE.is("mean(0, -1)", x.mean(0, -1), ThickerBook.NO);
        ThickerBook y = new ThickerBook();
        y.book(9);
        y.reader(0, 0);
        y.lend(0, 0);
        DUE.is("none ON THE SHELF", y.mean(3, 0), ThickerBook.NO);
        y.book(14);
        DUE.is("just one", y.mean(3, 0), 14);
        DUE.is("just one", y.mean(3, 1), 1);
    }
}
