/** Promises 21 to 25: orders, paste. */
final class OrderEdges {
    private static final int NONE = -1, BAD = -2, NO_NUMBER = -10001, BAD_DAYS = -10002;

    private OrderEdges() {
    }

    static void add(Edges edges) {
        order(edges);
        orderOfSeveral(edges);
        glues(edges);
        gluesAtMost(edges);
        refusedGlues(edges);
        tears(edges);
        tearsAtLeast(edges);
        refusedTears(edges);
        wanted(edges);
        swells(edges);
        refusedSwells(edges);
    }

    /** Two READERS that HAVE BOOKS 0 and 1. */
    private static ThickerBook two(String town, int... thick) {
        ThickerBook x = Calls.made(thick, Calls.row(0, 0, 0, 0), 0, 1);
        if (!town.isEmpty()) Calls.town(x, town);
        return x;
    }

    // ---- promise 21

    private static void order(Edges edges) {
        edges.of(21, "ORDER: k -1 TOTAL, else the k-th (-5: there are fewer). -10001: NONE: k (-1 .. 3).");
        edges.edge("TOTAL", e -> e.is("order(-1)", two("love 3 b=0", 50, 40).order(-1), 3));
        edges.edge("the first", e -> e.is("order(0)", two("", 50, 40).order(0), 0));
        edges.edge("the last of two", e -> e.is("order(1)", two("", 50, 40).order(1), 1));
        edges.edge("one more than there are", e -> {
            e.is("order(2)", two("", 50, 40).order(2), -5);
            e.is("order(3)", two("", 50, 40).order(3), -5);
        });
        edges.edge("the last of four", e -> e.is("order(3)", DayEdges.chain().order(3), 3));
        edges.edge("nobody", e -> {
            e.is("order(-1)", new ThickerBook().order(-1), 0);
            e.is("order(0)", new ThickerBook().order(0), -5);
            e.is("order(3)", new ThickerBook().order(3), -5);
        });
        edges.edge("one of READERS alone", e -> {
            ThickerBook x = Calls.made(Calls.row(50, 40), Calls.row(1, 0), 0);
            e.is("order(-1)", x.order(-1), -8);
            e.is("order(0)", x.order(0), 0);
            e.is("order(1)", x.order(1), -5);
        });
        edges.edge("k below -1", e -> {
            e.is("order(-2)", two("", 50, 40).order(-2), NO_NUMBER);
            e.is("order(the least int)", two("", 50, 40).order(Integer.MIN_VALUE), NO_NUMBER);
        });
        edges.edge("k above 3", e -> {
            e.is("order(4)", DayEdges.chain().order(4), NO_NUMBER);
            e.is("order(the greatest int)", DayEdges.chain().order(Integer.MAX_VALUE), NO_NUMBER);
        });
        edges.of(21, "and changes nothing");
        edges.edge("changes nothing", e -> {
            ThickerBook x = Calls.made(Calls.row(50, 60, 40), Calls.row(1, 0, 1, 0), 0, 1);
            e.unchanged("order(-1)", x, () -> x.order(-1));
        });
    }

    private static void orderOfSeveral(Edges edges) {
        edges.of(21, "of all orders in which all READERS COME once each that by which TOTAL is greatest then "
            + "(of several the first as a row)");
        edges.edge("all alike", e -> {
            ThickerBook x = DayEdges.chain();
            e.is("order(-1)", x.order(-1), 0);
            for (int k = 0; k < 4; k++) {
                e.is("order(" + k + ")", x.order(k), k);
            }
        });
        edges.edge("the very last order", e -> {
            ThickerBook x = DayEdges.chain();
            Calls.town(x, "love 1 r=0&b=1|r=1&b=2|r=2&b=3|r=3&b=4");
            e.is("order(-1)", x.order(-1), 4);
            for (int k = 0; k < 4; k++) {
                e.is("order(" + k + ")", x.order(k), 3 - k);
            }
        });
        edges.edge("the first as a row of some", e -> {
            // Whether reader 2 comes first, between or last is alike, so long as reader 1 is ahead of reader 0.
            ThickerBook x = Calls.made(Calls.row(50, 40, 30, 20), Calls.row(0, 0, 0, 0, 0, 0), 0, 1, 3);
            Calls.town(x, "love 1 r=0&b=1|r=1&b=2");
            e.is("order(-1)", x.order(-1), 2);
            e.is("order(0)", x.order(0), 1);
            e.is("order(1)", x.order(1), 0);
            e.is("order(2)", x.order(2), 2);
        });
        edges.edge("TOTAL below 0", e -> {
            ThickerBook x = Calls.made(Calls.row(99, 50), Calls.row(1, 0, 1, 0), 0, 1);
            e.is("order(-1)", x.order(-1), -29);
            e.is("order(0)", x.order(0), 0);
            e.is("order(1)", x.order(1), 1);
        });
        edges.edge("who had better not COME", e -> {
            // THIN takes what it likes less.
            ThickerBook x = Calls.made(Calls.row(50, 40, 30), Calls.row(1, 0, 0, 0), 0, 1);
            Calls.town(x, "love 9 b=0");
            e.is("order(-1), the first is THIN", x.order(-1), -6);
            ThickerBook y = Calls.made(Calls.row(40, 50, 30), Calls.row(0, 0, 1, 0), 0, 1);
            Calls.town(y, "love 9 b=1");
            e.is("order(-1), the last is THIN", y.order(-1), -6);
        });
        edges.edge("DAY stays while they COME", e -> {
            ThickerBook x = two("love 5 b=2&d=0;love 9 b=1&d=1", 60, 50, 40);
            e.is("order(-1)", x.order(-1), 5);
        });
        edges.edge("some HAVE none", e -> {
            ThickerBook x = Calls.made(Calls.row(50), Calls.row(0, 0, 3, 9), -1, -1);
            e.is("order(-1)", x.order(-1), 0);
            e.is("order(1)", x.order(1), 1);
        });
    }

    // ---- promise 22

    /** GLUES of one that HAS BOOK 0 for BOOK 1. */
    private static int gluesOf(String town, int own, int wanted) {
        ThickerBook x = Calls.made(Calls.row(own, wanted), Calls.row(0, 0), 0);
        if (!town.isEmpty()) Calls.town(x, town);
        return x.glues(0, 1);
    }

    private static void glues(Edges edges) {
        edges.of(22, "how often it must GLUE (0 .. 20) so that it MAY take that "
            + "(-5: not by so often, or it is not ON THE SHELF)");
        edges.edge("0 often", e -> e.is("glues(0, 1)", gluesOf("", 50, 49), 0));
        edges.edge("just as THICK", e -> e.is("glues(0, 1)", gluesOf("", 50, 50), 1));
        edges.edge("just as THICK by GAP 0", e -> e.is("glues(0, 1)", gluesOf("gap 0", 50, 50), 1));
        edges.edge("just as THICK behind one", e -> e.is("glues(0, 1)", gluesOf("", 50, 55), 2));
        edges.edge("by GAP behind one", e -> e.is("glues(0, 1)", gluesOf("gap 5", 50, 50), 1));
        edges.edge("by less than GAP behind one", e -> e.is("glues(0, 1)", gluesOf("gap 6", 50, 50), 2));
        edges.edge("20 often", e -> e.is("glues(0, 1)", gluesOf("paste 1", 50, 69), 20));
        edges.edge("21 often", e -> e.is("glues(0, 1)", gluesOf("paste 1", 50, 70), -5));
        edges.edge("not ON THE SHELF", e -> e.is("glues(0, 1)", two("", 50, 40).glues(0, 1), -5));
        edges.edge("its own", e -> e.is("glues(0, 0)", two("", 50, 40).glues(0, 0), -5));
        edges.edge("HAS none", e -> {
            ThickerBook x = Calls.made(Calls.row(50, 1), Calls.row(0, 0));
            e.is("glues(0, 1)", x.glues(0, 1), -5);
        });
    }

    private static void gluesAtMost(Edges edges) {
        edges.of(22, "One GLUES: what it HAS is PASTE THICKER (99 at most)");
        edges.edge("99 for 98", e -> e.is("glues(0, 1)", gluesOf("", 90, 98), 2));
        edges.edge("99 for 99", e -> e.is("glues(0, 1)", gluesOf("", 90, 99), -5));
        edges.edge("99 by GAP", e -> e.is("glues(0, 1)", gluesOf("gap 5", 90, 94), 2));
        edges.edge("99 by less than GAP", e -> e.is("glues(0, 1)", gluesOf("gap 5", 90, 95), -5));
        edges.edge("99 by one great PASTE", e -> e.is("glues(0, 1)", gluesOf("paste 99", 1, 98), 1));
    }

    private static void refusedGlues(Edges edges) {
        edges.of(22, "`int glues(int reader, int book)`: GLUES; -5. NONE.");
        edges.edge("one below 0", e -> e.is("glues(-1, 0)", two("", 50, 40, 30).glues(-1, 2), NONE));
        edges.edge("one beyond the last", e -> e.is("glues(2, 2)", two("", 50, 40, 30).glues(2, 2), NONE));
        edges.edge("a BOOK below 0", e -> {
            e.is("glues(0, -1)", two("", 50, 40, 30).glues(0, -1), NONE);
            e.is("glues(0, -5)", two("", 50, 40, 30).glues(0, -5), NONE);
        });
        edges.edge("a BOOK beyond the last", e -> e.is("glues(0, 3)", two("", 50, 40, 30).glues(0, 3), NONE));
        edges.edge("a BOOK beyond the last for who HAS none", e -> {
            ThickerBook x = Calls.made(Calls.row(50), Calls.row(0, 0));
            e.is("glues(0, 1)", x.glues(0, 1), NONE);
        });
        edges.of(22, "and changes nothing");
        edges.edge("changes nothing", e -> {
            ThickerBook x = two("", 50, 40, 90);
            e.unchanged("glues(0, 2)", x, () -> x.glues(0, 2));
        });
    }

    // ---- promise 23

    /** TEARS of the first for the second. */
    private static int tearsOf(String town, int own, int other) {
        return two(town, own, other).tears(0, 1);
    }

    private static void tears(Edges edges) {
        edges.of(23, "how often the first must TEAR (0 .. 20) so that what it HAS, were it ON THE SHELF, "
            + "were one that the other MAY take (-5: not by so often, or either HAS none)");
        edges.edge("0 often", e -> e.is("tears(0, 1)", tearsOf("", 49, 50), 0));
        edges.edge("just as THICK", e -> e.is("tears(0, 1)", tearsOf("", 50, 50), 1));
        edges.edge("just as THICK by GAP 0", e -> e.is("tears(0, 1)", tearsOf("gap 0", 50, 50), 1));
        edges.edge("just as THICK behind one", e -> e.is("tears(0, 1)", tearsOf("", 55, 50), 2));
        edges.edge("by GAP behind one", e -> e.is("tears(0, 1)", tearsOf("gap 5", 50, 50), 1));
        edges.edge("by less than GAP behind one", e -> e.is("tears(0, 1)", tearsOf("gap 6", 50, 50), 2));
        edges.edge("20 often", e -> e.is("tears(0, 1)", tearsOf("paste 1", 50, 31), 20));
        edges.edge("21 often", e -> e.is("tears(0, 1)", tearsOf("paste 1", 50, 30), -5));
        edges.edge("the first HAS none", e -> {
            ThickerBook x = Calls.made(Calls.row(50, 40), Calls.row(0, 0, 0, 0), -1, 1);
            e.is("tears(0, 1)", x.tears(0, 1), -5);
        });
        edges.edge("the other HAS none", e -> {
            ThickerBook x = Calls.made(Calls.row(50, 40), Calls.row(0, 0, 0, 0), 0, -1);
            e.is("tears(0, 1)", x.tears(0, 1), -5);
        });
    }

    private static void tearsAtLeast(Edges edges) {
        edges.of(23, "it TEARS: that is PASTE less THICK (1 at least)");
        edges.edge("1 for 2", e -> e.is("tears(0, 1)", tearsOf("", 50, 2), 10));
        edges.edge("1 for 1", e -> e.is("tears(0, 1)", tearsOf("", 50, 1), -5));
        edges.edge("1 by GAP", e -> e.is("tears(0, 1)", tearsOf("gap 3", 50, 4), 10));
        edges.edge("1 by less than GAP", e -> e.is("tears(0, 1)", tearsOf("gap 4", 50, 4), -5));
    }

    private static void refusedTears(Edges edges) {
        edges.of(23, "TEARS; -5. NONE; BAD: one is both.");
        edges.edge("the first below 0", e -> e.is("tears(-1, 0)", two("", 50, 40).tears(-1, 0), NONE));
        edges.edge("the first beyond the last", e -> e.is("tears(2, 0)", two("", 50, 40).tears(2, 0), NONE));
        edges.edge("the other below 0", e -> e.is("tears(0, -1)", two("", 50, 40).tears(0, -1), NONE));
        edges.edge("the other beyond the last", e -> e.is("tears(0, 2)", two("", 50, 40).tears(0, 2), NONE));
        edges.edge("one is both", e -> {
            e.is("tears(0, 0)", two("", 50, 40).tears(0, 0), BAD);
            e.is("tears(1, 1)", two("", 50, 40).tears(1, 1), BAD);
        });
        edges.edge("one that HAS none is both", e -> {
            ThickerBook x = Calls.made(Calls.row(50), Calls.row(0, 0));
            e.is("tears(0, 0)", x.tears(0, 0), BAD);
        });
        edges.edge("NONE ahead of BAD", e -> {
            e.is("tears(2, 2)", two("", 50, 40).tears(2, 2), NONE);
            e.is("tears(-1, -1)", two("", 50, 40).tears(-1, -1), NONE);
        });
        edges.of(23, "and changes nothing");
        edges.edge("changes nothing", e -> {
            ThickerBook x = two("", 50, 40);
            e.unchanged("tears(0, 1)", x, () -> x.tears(0, 1));
        });
    }

    // ---- promise 24

    private static void wanted(Edges edges) {
        edges.of(24, "those of READERS, as bits, whose LIKING is greatest for that of all BOOKS "
            + "(of several alike for each of these)");
        edges.edge("several alike", e -> {
            for (int b = 0; b < 3; b++) {
                e.is("wanted(" + b + ")", two("", 50, 40, 30).wanted(b), 3);
            }
        });
        edges.edge("1 less", e -> {
            ThickerBook x = two("love 2 b=0;love 1 b=1", 50, 40, 30);
            e.is("wanted(0)", x.wanted(0), 3);
            e.is("wanted(1)", x.wanted(1), 0);
        });
        edges.edge("below 0", e -> {
            ThickerBook x = two("bore 2 b=0|b=2;bore 1 b=1", 50, 40, 30);
            e.is("wanted(1)", x.wanted(1), 3);
            e.is("wanted(0)", x.wanted(0), 0);
        });
        edges.edge("what another HAS", e -> e.is("wanted(1)", two("love 2 b=1", 50, 40, 30).wanted(1), 3));
        edges.edge("who HAS none", e -> {
            ThickerBook x = Calls.made(Calls.row(50), Calls.row(0, 0));
            e.is("wanted(0)", x.wanted(0), 1);
        });
        edges.edge("the last BOOK, the last of READERS", e -> {
            ThickerBook x = Calls.made(Calls.row(1, 2, 3, 4, 5, 6, 7), Calls.row(0, 0, 0, 0, 0, 0, 0, 0));
            Calls.town(x, "love 1 r=3&b=6;bore 1 r<3&b=6");
            e.is("wanted(6)", x.wanted(6), 8);
        });
        edges.edge("nobody", e -> e.is("wanted(0)", Calls.made(Calls.row(50), Calls.row()).wanted(0), 0));
        edges.of(24, "`int wanted(int book)`: WANTED (bits). NONE.");
        edges.edge("a BOOK below 0", e -> {
            e.is("wanted(-1)", two("", 50, 40).wanted(-1), NONE);
            e.is("wanted(-5)", two("", 50, 40).wanted(-5), NONE);
        });
        edges.edge("a BOOK beyond the last", e -> e.is("wanted(2)", two("", 50, 40).wanted(2), NONE));
        edges.edge("no BOOKS", e -> e.is("wanted(0)", new ThickerBook().wanted(0), NONE));
        edges.of(24, "and changes nothing");
        edges.edge("changes nothing", e -> {
            ThickerBook x = two("love 2 b=1", 50, 40, 30);
            e.unchanged("wanted(1)", x, () -> x.wanted(1));
        });
    }

    // ---- promise 25

    private static void swells(Edges edges) {
        edges.of(25, "SWELLS of n DAYS (0 .. 40): THICK of all ON THE SHELF behind n, together, less what it is now "
            + "(may be below 0).");
        edges.edge("0 DAYS", e -> {
            ThickerBook x = Calls.made(Calls.row(50, 40), Calls.row(1, 0), 0);
            e.is("swells(0)", x.swells(0), 0);
        });
        edges.edge("1 DAY", e -> {
            ThickerBook x = Calls.made(Calls.row(50, 40), Calls.row(1, 0), 0);
            e.is("swells(1)", x.swells(1), 10);
        });
        edges.edge("40 DAYS", e -> {
            e.is("swells(39)", DayEdges.chain().swells(39), 30);
            e.is("swells(40)", DayEdges.chain().swells(40), 40);
        });
        edges.edge("nothing is taken", e -> e.is("swells(40)", two("", 50, 40, 30).swells(40), 0));
        edges.edge("nothing ON THE SHELF", e -> e.is("swells(40)", two("", 50, 40).swells(40), 0));
        edges.edge("nobody", e -> e.is("swells(40)", Calls.made(Calls.row(50), Calls.row()).swells(40), 0));
        edges.edge("no BOOKS", e -> e.is("swells(40)", new ThickerBook().swells(40), 0));
        edges.edge("the most", e -> {
            // 99 for 1 is the most that one can leave, so that below 0 it never comes.
            ThickerBook x = Calls.made(Calls.row(99, 1), Calls.row(1, 0), 0);
            e.is("swells(40)", x.swells(40), 98);
        });
        edges.of(25, "and changes nothing");
        edges.edge("changes nothing", e -> {
            ThickerBook x = DayEdges.chain();
            e.unchanged("swells(40)", x, () -> x.swells(40));
        });
    }

    private static void refusedSwells(Edges edges) {
        edges.of(25, "`int swells(int n)`: SWELLS. -10002: BAD.");
        edges.edge("n below 0", e -> {
            e.is("swells(-1)", two("", 50, 40).swells(-1), BAD_DAYS);
            e.is("swells(the least int)", two("", 50, 40).swells(Integer.MIN_VALUE), BAD_DAYS);
        });
        edges.edge("n above 40", e -> {
            e.is("swells(41)", two("", 50, 40).swells(41), BAD_DAYS);
            e.is("swells(the greatest int)", two("", 50, 40).swells(Integer.MAX_VALUE), BAD_DAYS);
        });
    }
}
