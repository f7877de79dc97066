/** Promises 15 to 20: days to come, goes. */
public final class DaysTest {
    private static final Due DUE = new Due("DaysTest");

    private DaysTest() {
    }

    public static void main(String[] args) {
        on();
        onBeyondTheLastDay();
        until();
        untilNever();
        untilTheLast();
        few();
        changes();
        reachAndNever();
        most();
        mostOfSeveral();
        mostFarAway();
        DUE.end();
    }

    private static void on() {
        ThickerBook x = new ThickerBook();
        Calls.books(x, 80, 60, 40, 20);
        Calls.readers(x, 1, 0, 0, 0, 0, 0);
        Calls.lend(x, 1, 0);
        Calls.town(x, "love 7 r=1&b=2&d=2;love 3 r=1&b=3");
        // DAY 0: reader 0 takes book 3; reader 1 likes none more. DAY 2: reader 1 takes book 2.
        int[] took = {0, 1, 1, 2, 2};
        // THIN likes book 1 by -60/5, then book 3 by -20/5; behind DAY 2 reader 1 HAS what is not liked any more.
        int[] totals = {-12, -4, -4, -4, -4};
        int[] has0 = {1, 3, 3, 3, 3};
        int[] has1 = {0, 0, 0, 2, 2};
        for (int n = 0; n <= 4; n++) {
            DUE.is("on(" + n + ", 0)", x.on(n, 0), took[n]);
            DUE.is("on(" + n + ", 1)", x.on(n, 1), totals[n]);
            DUE.is("on(" + n + ", 10)", x.on(n, 10), has0[n]);
            DUE.is("on(" + n + ", 11)", x.on(n, 11), has1[n]);
            DUE.is("on(" + n + ", 12)", x.on(n, 12), -5);
        }
        DUE.is("on(12, 1): book 2 is liked on DAY 12", x.on(12, 1), -20 / 5 + 7);
        DUE.is("DAY", x.told(0), 0);
        DUE.is("ON THE SHELF", x.told(4), Calls.bits(2, 3));
        DUE.is("on(40, 0)", x.on(40, 0), 2);
        DUE.is("on(41, 0)", x.on(41, 0), -10002);
        DUE.is("on(-1, 0)", x.on(-1, 0), -10002);
        DUE.is("on(0, 2)", x.on(0, 2), -10001);
        DUE.is("on(0, 9)", x.on(0, 9), -10001);
        DUE.is("on(0, 13)", x.on(0, 13), -10001);
        DUE.is("on(41, -1)", x.on(41, -1), -10001);
        DUE.is("on(0, least)", x.on(0, Integer.MIN_VALUE), -10001);
    }

    private static void onBeyondTheLastDay() {
        ThickerBook x = new ThickerBook();
        Calls.books(x, 80, 60);
        Calls.readers(x, 0, 0);
        x.lend(0, 0);
        Calls.town(x, "love 1 b=1&d=2");
        for (int n = 0; n < 249; n++) {
            x.pass(2);
            x.lend(0, 0);
            x.pass(38);
            x.lend(0, 0);
        }
        DUE.is("DAY", x.told(0), 9960);
        x.pass(39);
        x.lend(0, 0);
        DUE.is("DAY", x.told(0), 9999);
        DUE.is("DAYS beyond 9999: not by DAY 10002", x.on(3, 10), 0);
        DUE.is("DAYS beyond 9999: on DAY 10002", x.on(4, 10), 1);
    }

    private static void until() {
        ThickerBook x = new ThickerBook();
        Calls.books(x, 80, 60, 40);
        Calls.readers(x, 0, 0);
        DUE.is("HAS none: STUCK", x.until(1), 0);
        x.lend(0, 0);
        DUE.is("RESTS: likes none more", x.until(0), 0);
        DUE.is("MAY take some", x.until(1), -5);
        Calls.town(x, "love 1 b=1;love 2 b=2&d=3");
        // DAY 0: takes book 1; DAY 3: book 2.
        DUE.is("RESTS for a while counts", x.until(0), 1);
        DUE.is("STUCK", x.until(1), 4);
        x.pass(3);
        DUE.is("RESTS behind the DAY", x.until(0), 1);
        x.pass(1);
        DUE.is("RESTS", x.until(0), 0);
        DUE.is("STUCK", x.until(1), 0);
        DUE.is("until(2)", x.until(2), -1);
        DUE.is("until(-1)", x.until(-1), -1);
    }

    private static void untilNever() {
        ThickerBook x = new ThickerBook();
        Calls.books(x, 60, 50, 9);
        Calls.readers(x, 0, 0);
        x.lend(0, 0);
        Calls.town(x, "gap 41;love 1 b=2&d=9");
        DUE.is("behind 10 DAYS", x.until(1), 10);
        x.pass(40);
        x.lend(0, 1);
        DUE.is("not wanted on that DAY", x.on(1, 10), 1);
        Calls.town(x, "gap 40");
        DUE.is("MAY for good", x.until(1), -5);
        DUE.is("wants none", x.until(0), 0);
    }

    /** On every tenth DAY the one ahead takes what the one behind it left. */
    private static void untilTheLast() {
        ThickerBook x = new ThickerBook();
        Calls.books(x, 50, 40, 30, 20, 10);
        Calls.readers(x, 0, 0, 0, 0, 0, 0, 0, 0);
        Calls.lend(x, 0, 1, 2, 3);
        Calls.town(x, "love 1 d=9&(r=0&b=1|r=1&b=2|r=2&b=3|r=3&b=4)");
        DUE.is("STUCK", x.until(1), 40);
        DUE.is("the last takes", x.on(40, 0), 4);
        DUE.is("ahead of the last", x.on(39, 0), 3);
        DUE.is("RESTS", x.until(0), 0);
        DUE.is("HAS", x.on(40, 10), 1);
        DUE.is("HAS ahead", x.on(39, 10), 0);
        x.pass(9);
        DUE.is("RESTS behind DAY 9", x.until(0), 1);
        DUE.is("STUCK", x.until(1), 31);
        x.book(1);
        DUE.is("MAY for good", x.until(1), -5);
    }

    private static void few() {
        ThickerBook x = new ThickerBook();
        Calls.books(x, 50, 40, 30, 60, 40);
        Calls.readers(x, 0, 0, 0, 0, 0, 0);
        Calls.lend(x, 0, 1);
        DUE.is("it has", x.few(0, 0), 0);
        DUE.is("by one GO, liked or not", x.few(0, 2), 1);
        DUE.is("when the other has left it", x.few(0, 1), 2);
        DUE.is("as THICK", x.few(1, 4), -5);
        DUE.is("THICKER", x.few(0, 3), -5);
        DUE.is("back up by none", x.few(1, 0), -5);
        DUE.is("HAS none", x.few(2, 2), -5);
        DUE.is("few(3, 0)", x.few(3, 0), -1);
        DUE.is("few(-1, 0)", x.few(-1, 0), -1);
        DUE.is("few(0, 5)", x.few(0, 5), -1);
        DUE.is("few(0, -1)", x.few(0, -1), -1);
        DUE.is("changes nothing", x.told(4), Calls.bits(2, 3, 4));
    }

    private static void changes() {
        ThickerBook x = new ThickerBook();
        Calls.books(x, 50, 50);
        Calls.readers(x, 0, 0, 3, 4);
        Calls.lend(x, 0, 1);
        DUE.is("as liked", x.few(0, 1), -5);
        Calls.town(x, "love 1 r=0&b=1;love 4 r=1&b=0");
        DUE.is("STILL: v as much", x.few(0, 1), -5);
        Calls.town(x, "love 1 r=0&b=1;love 5 r=1&b=0");
        DUE.is("both like more", x.few(0, 1), 1);
        DUE.is("both like more, the other", x.few(1, 0), 1);
        Calls.town(x, "love 5 r=1&b=0");
        DUE.is("one likes as much", x.few(1, 0), -5);
        x.lend(0, -1);
        x.reader(0, 0);
        DUE.is("none to change for", x.few(0, 1), -5);
        DUE.is("none to change for, the other", x.few(1, 0), -5);
    }

    private static void reachAndNever() {
        ThickerBook x = new ThickerBook();
        Calls.books(x, 50, 40, 30, 60, 40);
        Calls.readers(x, 0, 0, 0, 0, 0, 0);
        Calls.lend(x, 0, 1);
        DUE.is("reach(0)", x.reach(0), Calls.bits(0, 1, 2, 4));
        DUE.is("reach(1)", x.reach(1), Calls.bits(1, 2));
        DUE.is("reach(2)", x.reach(2), 0);
        DUE.is("never()", x.never(), Calls.bits(3));
        DUE.is("reach(3)", x.reach(3), -1);
        DUE.is("reach(-1)", x.reach(-1), -1);
        x.lend(2, 3);
        DUE.is("never() when all are HELD or thinner", x.never(), 0);
        Calls.town(x, "gap 90");
        DUE.is("reach(0) by GAP", x.reach(0), 1);
        DUE.is("never() by GAP", x.never(), Calls.bits(2, 4));
    }

    private static void most() {
        ThickerBook x = new ThickerBook();
        Calls.books(x, 50, 40, 30, 20);
        Calls.readers(x, 0, 0, 0, 0, 0, 0);
        Calls.lend(x, 0, 1);
        Calls.town(x, "love 9 r=0&b=1;love 2 r=1&b=2;love 3 r=1&b=3;bore 1 b=0");
        // Best: reader 0 has book 1, reader 1 book 3: reader 1 takes 3, then reader 0 takes 1.
        DUE.is("TOTAL", x.most(0), 12);
        DUE.is("by how few", x.most(1), 2);
        DUE.is("most(10)", x.most(10), 1);
        DUE.is("most(11)", x.most(11), 3);
        DUE.is("most(12)", x.most(12), -5);
        DUE.is("most(13)", x.most(13), -10001);
        DUE.is("most(2)", x.most(2), -10001);
        DUE.is("most(-1)", x.most(-1), -10001);
        DUE.is("most(9)", x.most(9), -10001);
        DUE.is("changes nothing", x.told(3), -1);
    }

    private static void mostOfSeveral() {
        ThickerBook x = new ThickerBook();
        Calls.books(x, 20, 30, 40, 60);
        Calls.readers(x, 0, 0, 0, 0);
        Calls.lend(x, 3, 2);
        DUE.is("TOTAL", x.most(0), 0);
        // All ways are alike: the first row has book 0 for reader 0, then book 1 for reader 1.
        DUE.is("the first as a row", x.most(10), 0);
        DUE.is("the first as a row", x.most(11), 1);
        DUE.is("by how few of just that one", x.most(1), 2);
    }

    /** Of some hundred ways to HAVE them the one that all but needs the most GOES. */
    private static void mostFarAway() {
        ThickerBook x = new ThickerBook();
        Calls.books(x, 70, 60, 50, 40, 30, 20, 10);
        Calls.readers(x, 0, 0, 0, 0, 0, 0, 0, 0);
        Calls.lend(x, 0, 1, 2, 3);
        Calls.town(x, "love 9 r=0&b=1|r=1&b=2|r=2&b=3|r=3&b=6;love 2 b=6");
        DUE.is("TOTAL", x.most(0), 4 * 9 + 2);
        DUE.is("by how few", x.most(1), 4);
        int[] has = {1, 2, 3, 6};
        for (int r = 0; r < 4; r++) {
            DUE.is("most(" + (10 + r) + ")", x.most(10 + r), has[r]);
            DUE.is("few(" + r + ", 6)", x.few(r, 6), 1);
            DUE.is("reach(" + r + ")", x.reach(r), 127 >> r << r);
        }
        DUE.is("few(0, 3): reader 3 makes room", x.few(0, 3), 2);
        DUE.is("never()", x.never(), 0);
    }
}
