/** Promises 21 to 25: orders, paste. */
public final class OrdersTest {
    private static final Due DUE = new Due("OrdersTest");

    private OrdersTest() {
    }

    public static void main(String[] args) {
        order();
        orderOfSeveral();
        orderOfFour();
        glues();
        tears();
        wanted();
        swells();
        DUE.end();
    }

    private static void order() {
        ThickerBook x = new ThickerBook();
        DUE.is("nobody: TOTAL", x.order(-1), 0);
        DUE.is("nobody: the first", x.order(0), -5);
        orderOfOne();
        Calls.books(x, 60, 50, 40, 30);
        Calls.readers(x, 0, 0, 0, 0, 0, 0);
        Calls.lend(x, 0, 1, 2);
        // Reader 0 wants what reader 1 HAS, and that one what reader 2 HAS, who wants book 3.
        Calls.town(x, "love 5 r=0&b=1;love 5 r=1&b=2;love 5 r=2&b=3");
        DUE.is("TOTAL", x.order(-1), 15);
        DUE.is("first", x.order(0), 2);
        DUE.is("second", x.order(1), 1);
        DUE.is("third", x.order(2), 0);
        DUE.is("fewer", x.order(3), -5);
        DUE.is("order(-2)", x.order(-2), -10001);
        DUE.is("order(4)", x.order(4), -10001);
        DUE.is("changes nothing", x.told(3), 0);
    }

    private static void orderOfOne() {
        ThickerBook x = new ThickerBook();
        Calls.books(x, 60, 50);
        Calls.readers(x, 1, 0);
        x.lend(0, 0);
        DUE.is("one: TOTAL", x.order(-1), -10);
        DUE.is("one: the first", x.order(0), 0);
        DUE.is("one: the second", x.order(1), -5);
    }

    private static void orderOfSeveral() {
        ThickerBook x = new ThickerBook();
        Calls.books(x, 60, 50, 40);
        Calls.readers(x, 0, 0, 0, 0, 0, 0);
        Calls.lend(x, 0, 1);
        // Only one can have book 2; reader 1 likes it more.
        Calls.town(x, "love 5 b=2;love 3 b=2&r=1;bore 40 b=2&d=1");
        DUE.is("TOTAL", x.order(-1), 8);
        DUE.is("the first as a row", x.order(0), 1);
        DUE.is("the first as a row", x.order(1), 0);
        DUE.is("the first as a row", x.order(2), 2);
        // On DAY 1 nobody wants it; DAY stays while they COME.
        x.pass(11);
        x.lend(1, 1);
        x.lend(0, 0);
        DUE.is("DAY 11", x.told(0), 11);
        DUE.is("TOTAL on DAY 11", x.order(-1), 0);
        DUE.is("all alike", x.order(0), 0);
        DUE.is("all alike", x.order(2), 2);
    }

    private static void orderOfFour() {
        ThickerBook x = new ThickerBook();
        Calls.books(x, 90, 80, 70, 60, 50);
        Calls.readers(x, 0, 0, 0, 0, 0, 0, 0, 0);
        Calls.lend(x, 0, 1, 2, 3);
        Calls.town(x, "love 9 r=3&b=4;love 9 r=1&b=3;love 9 r=0&b=1;bore 1 r=2&b=2");
        // 3 ahead of 1 ahead of 0; reader 2 must come when no thinner one is left, and keeps what it likes by -1.
        DUE.is("TOTAL", x.order(-1), 26);
        int[] order = {3, 1, 0, 2};
        for (int k = 0; k < 4; k++) {
            DUE.is("order(" + k + ")", x.order(k), order[k]);
        }
        // Reader 1 has to take book 4, which reader 2 likes more, to leave book 1 for reader 0.
        Calls.town(x, "love 9 r=0&b=1;love 1 r=1&b=4;love 3 r=2&b=4");
        DUE.is("TOTAL", x.order(-1), 10);
        int[] second = {1, 0, 2, 3};
        for (int k = 0; k < 4; k++) {
            DUE.is("second order(" + k + ")", x.order(k), second[k]);
        }
    }

    private static void glues() {
        ThickerBook x = new ThickerBook();
        Calls.books(x, 20, 40, 15, 20, 99, 98);
        Calls.readers(x, 0, 0, 0, 0, 0, 0);
        Calls.lend(x, 0, 2);
        DUE.is("MAY take it already", x.glues(0, 2), -5);
        x.lend(1, -1);
        DUE.is("MAY take it", x.glues(0, 2), 0);
        DUE.is("as THICK", x.glues(0, 3), 1);
        DUE.is("20 + 25 is THICKER than 40", x.glues(0, 1), 5);
        DUE.is("never above 99", x.glues(0, 4), -5);
        DUE.is("99 is THICKER than 98", x.glues(0, 5), 16);
        DUE.is("its own is not ON THE SHELF", x.glues(0, 0), -5);
        DUE.is("HAS none", x.glues(2, 2), -5);
        Calls.town(x, "gap 20;paste 1");
        DUE.is("not by so often", x.glues(0, 3), 20);
        Calls.town(x, "gap 21;paste 1");
        DUE.is("not by so often", x.glues(0, 3), -5);
        DUE.is("glues(3, 0)", x.glues(3, 0), -1);
        DUE.is("glues(-1, 0)", x.glues(-1, 0), -1);
        DUE.is("glues(0, 6)", x.glues(0, 6), -1);
        DUE.is("glues(0, -1)", x.glues(0, -1), -1);
        DUE.is("changes nothing", x.at(0, 0), 20);
    }

    private static void tears() {
        ThickerBook x = new ThickerBook();
        Calls.books(x, 50, 40, 1);
        Calls.readers(x, 0, 0, 0, 0, 0, 0, 0, 0);
        Calls.lend(x, 0, 1, 2);
        DUE.is("50 - 15 is less than 40", x.tears(0, 1), 3);
        DUE.is("MAY already", x.tears(1, 0), 0);
        DUE.is("never below 1", x.tears(0, 2), -5);
        DUE.is("the other HAS none", x.tears(0, 3), -5);
        DUE.is("it HAS none", x.tears(3, 0), -5);
        DUE.is("one is both", x.tears(3, 3), -2);
        DUE.is("tears(0, 4)", x.tears(0, 4), -1);
        DUE.is("tears(4, 4)", x.tears(4, 4), -1);
        DUE.is("tears(-1, 0)", x.tears(-1, 0), -1);
        Calls.town(x, "gap 39;paste 50");
        DUE.is("down to 1", x.tears(0, 1), 1);
        Calls.town(x, "gap 40;paste 50");
        DUE.is("by GAP too much", x.tears(0, 1), -5);
        Calls.town(x, "gap 0;paste 1");
        DUE.is("11 often", x.tears(0, 1), 11);
        Calls.town(x, "gap 10;paste 1");
        DUE.is("20 often", x.tears(0, 1), 20);
        Calls.town(x, "gap 11;paste 1");
        DUE.is("FULL of TOWNS is 5", x.count(2), 5);
        DUE.is("not by so often", x.tears(0, 1), -5);
        DUE.is("changes nothing", x.at(0, 0), 50);
    }

    private static void wanted() {
        ThickerBook x = new ThickerBook();
        Calls.books(x, 50, 40, 30);
        Calls.readers(x, 0, 0, 1, 0, 3, 5);
        // READER: all alike; THIN: the thinnest; STILL: what it HAS, though HELD.
        Calls.lend(x, -1, -1, 1);
        DUE.is("wanted(0)", x.wanted(0), Calls.bits(0));
        DUE.is("wanted(1)", x.wanted(1), Calls.bits(0, 2));
        DUE.is("wanted(2)", x.wanted(2), Calls.bits(0, 1));
        Calls.town(x, "love 9 b=0");
        DUE.is("wanted(0)", x.wanted(0), Calls.bits(0, 1, 2));
        DUE.is("wanted(1)", x.wanted(1), 0);
        DUE.is("wanted(3)", x.wanted(3), -1);
        DUE.is("wanted(-1)", x.wanted(-1), -1);
        Calls.town(x, "bore 9 b=0|b=1|b=2");
        DUE.is("below 0 alike", x.wanted(0), Calls.bits(0));
    }

    private static void swells() {
        ThickerBook x = new ThickerBook();
        Calls.books(x, 50, 40, 30, 99);
        Calls.readers(x, 1, 0, 0, 0);
        Calls.lend(x, 0, 1);
        DUE.is("swells(0)", x.swells(0), 0);
        DUE.is("50 for 30", x.swells(1), 20);
        Calls.town(x, "love 1 r=1&b=2;love 1 d=1");
        x.lend(0, -1);
        DUE.is("40 for 30", x.swells(40), 10);
        DUE.is("changes nothing", x.of(1, 2), 1);
        DUE.is("swells(41)", x.swells(41), -10002);
        DUE.is("swells(-1)", x.swells(-1), -10002);
    }
}
