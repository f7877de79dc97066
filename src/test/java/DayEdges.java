/** Promises 15 to 20: days to come, goes. */
final class DayEdges {
    private static final int NONE = -1, NO_NUMBER = -10001, BAD_DAYS = -10002;

    private DayEdges() {
    }

    static void add(Edges edges) {
        on(edges);
        onBeyond(edges);
        refusedOn(edges);
        rests(edges);
        stuck(edges);
        few(edges);
        changes(edges);
        refusedFew(edges);
        reach(edges);
        never(edges);
        most(edges);
        mostOfSeveral(edges);
        refusedMost(edges);
    }

    /** One READER that HAS BOOK 0. */
    private static ThickerBook one(String town, int... thick) {
        ThickerBook x = Calls.made(thick, Calls.row(0, 0), 0);
        if (!town.isEmpty()) Calls.town(x, town);
        return x;
    }

    /** On DAY 9 the last one takes BOOK 4, on DAY 19 the one ahead what that left, on DAY 29 and 39 likewise. */
    static ThickerBook chain() {
        ThickerBook x = Calls.made(Calls.row(50, 40, 30, 20, 10), Calls.row(0, 0, 0, 0, 0, 0, 0, 0), 0, 1, 2, 3);
        Calls.town(x, "love 1 d=9&(r=0&b=1|r=1&b=2|r=2&b=3|r=3&b=4)");
        return x;
    }

    /** As the chain, but on DAY 40 one takes BOOK 5, too. */
    private static ThickerBook longChain() {
        ThickerBook x = Calls.made(Calls.row(50, 40, 30, 20, 10, 5), Calls.row(0, 0, 0, 0, 0, 0, 0, 0), 0, 1, 2, 3);
        Calls.town(x, "love 1 d=9&(r=0&b=1|r=1&b=2|r=2&b=3|r=3&b=4);love 1 d=0&r=0&(b=0|b=5)");
        return x;
    }

    static ThickerBook onTheLastDay() {
        ThickerBook x = new ThickerBook();
        for (int n = 0; n < 249; n++) {
            x.pass(40);
        }
        x.pass(39);
        return x;
    }

    // ---- promise 15

    private static void on(Edges edges) {
        edges.of(15, "ON n DAYS (0 .. 40): what one HAS; how many took something, each counted each time; TOTAL.");
        edges.edge("0 DAYS", e -> {
            ThickerBook x = Calls.made(Calls.row(50, 40), Calls.row(1, 0), 0);
            e.is("on(0, 0)", x.on(0, 0), 0);
            e.is("on(0, 1)", x.on(0, 1), -10);
            e.is("on(0, 10)", x.on(0, 10), 0);
        });
        edges.edge("40 DAYS", e -> {
            ThickerBook x = chain();
            e.is("on(39, 0)", x.on(39, 0), 3);
            e.is("on(40, 0)", x.on(40, 0), 4);
            e.is("on(39, 10)", x.on(39, 10), 0);
            e.is("on(40, 10)", x.on(40, 10), 1);
        });
        edges.edge("one that takes twice", e -> {
            ThickerBook x = one("love 1 b=1;love 2 b=2&d=1", 50, 40, 30);
            e.is("on(1, 0)", x.on(1, 0), 1);
            e.is("on(2, 0)", x.on(2, 0), 2);
        });
        edges.edge("two that take on one DAY", e -> {
            ThickerBook x = Calls.made(Calls.row(50, 60, 40), Calls.row(1, 0, 1, 0), 0, 1);
            e.is("on(1, 0)", x.on(1, 0), 2);
        });
        edges.edge("none takes", e -> e.is("on(40, 0)", one("", 50, 40).on(40, 0), 0));
        edges.edge("nobody", e -> {
            e.is("on(40, 0)", new ThickerBook().on(40, 0), 0);
            e.is("on(40, 1)", new ThickerBook().on(40, 1), 0);
        });
        edges.of(15, "10 and r what one HAS (-5)");
        edges.edge("HAS none", e -> {
            ThickerBook x = Calls.made(Calls.row(50, 40), Calls.row(1, 0));
            e.is("on(3, 10)", x.on(3, 10), -5);
        });
        edges.edge("the last of READERS", e -> e.is("on(10, 13)", chain().on(10, 13), 4));
    }

    private static void onBeyond(Edges edges) {
        edges.of(15, "All that follows is asked, goes on from how all is (DAYS beyond 9999, too), and changes nothing.");
        edges.edge("DAYS beyond 9999", e -> {
            ThickerBook x = onTheLastDay();
            Calls.books(x, 50, 40);
            Calls.readers(x, 0, 0);
            x.lend(0, 0);
            Calls.town(x, "love 1 b=1&d=2");
            e.is("on(3, 10)", x.on(3, 10), 0);
            e.is("on(4, 10)", x.on(4, 10), 1);
            e.is("on(40, 0)", x.on(40, 0), 1);
        });
        edges.edge("changes nothing", e -> {
            ThickerBook x = chain();
            e.unchanged("on(40, 0)", x, () -> x.on(40, 0));
        });
    }

    private static void refusedOn(Edges edges) {
        edges.of(15, "-10001: NONE; -10002: BAD: n.");
        edges.edge("n below 0", e -> {
            e.is("on(-1, 0)", chain().on(-1, 0), BAD_DAYS);
            e.is("on(the least int, 0)", chain().on(Integer.MIN_VALUE, 0), BAD_DAYS);
        });
        edges.edge("n above 40", e -> {
            e.is("on(41, 0)", chain().on(41, 0), BAD_DAYS);
            e.is("on(the greatest int, 0)", chain().on(Integer.MAX_VALUE, 0), BAD_DAYS);
        });
        edges.edge("what below 0", e -> e.is("on(0, -1)", chain().on(0, -1), NO_NUMBER));
        edges.edge("what between 1 and 10", e -> {
            e.is("on(0, 2)", chain().on(0, 2), NO_NUMBER);
            e.is("on(0, 9)", chain().on(0, 9), NO_NUMBER);
        });
        edges.edge("what beyond the last of READERS", e -> {
            e.is("on(0, 14)", chain().on(0, 14), NO_NUMBER);
            e.is("on(0, 11)", one("", 50).on(0, 11), NO_NUMBER);
            e.is("on(0, 10)", new ThickerBook().on(0, 10), NO_NUMBER);
        });
        edges.edge("what that wraps around by 10", e -> {
            e.is("on(0, the least int)", chain().on(0, Integer.MIN_VALUE), NO_NUMBER);
            e.is("on(0, the least int and 10)", chain().on(0, Integer.MIN_VALUE + 10), NO_NUMBER);
        });
        edges.edge("NONE ahead of BAD", e -> {
            e.is("on(41, 2)", chain().on(41, 2), NO_NUMBER);
            e.is("on(-1, 14)", chain().on(-1, 14), NO_NUMBER);
        });
    }

    // ---- promise 16

    private static void rests(Edges edges) {
        edges.of(16, "RESTS: the fewest DAYS (0 .. 40) behind which nobody has a CHOICE (-5: not by then).");
        edges.edge("RESTS of nobody", e -> e.is("until(0)", new ThickerBook().until(0), 0));
        edges.edge("RESTS now", e -> e.is("until(0)", one("", 50, 40).until(0), 0));
        edges.edge("RESTS behind 1 DAY", e -> {
            ThickerBook x = Calls.made(Calls.row(50, 40), Calls.row(1, 0), 0);
            e.is("until(0)", x.until(0), 1);
        });
        edges.edge("RESTS behind some DAYS", e -> {
            ThickerBook x = chain();
            Calls.town(x, "love 1 r=0&b=1|r=1&b=2|r=2&b=3|r=3&b=4");
            e.is("until(0)", x.until(0), 4);
        });
        edges.edge("RESTS for a while", e -> e.is("until(0)", one("love 1 b=1;love 2 b=2&d=3", 50, 40, 30).until(0), 1));
        edges.edge("RESTS when only the last has a CHOICE", e -> {
            ThickerBook x = chain();
            x.pass(9);
            e.is("until(0)", x.until(0), 1);
        });
        edges.of(16, "RESTS (what 0), STUCK (1); -5. NONE.");
        edges.edge("what below 0", e -> {
            e.is("until(-1)", chain().until(-1), NONE);
            e.is("until(the least int)", chain().until(Integer.MIN_VALUE), NONE);
        });
        edges.edge("what above 1", e -> {
            e.is("until(2)", chain().until(2), NONE);
            e.is("until(the greatest int)", chain().until(Integer.MAX_VALUE), NONE);
        });
    }

    private static void stuck(Edges edges) {
        edges.of(16, "STUCK: the fewest DAYS (0 .. 40) behind which nobody MAY take anything (-5).");
        edges.edge("STUCK of nobody", e -> e.is("until(1)", new ThickerBook().until(1), 0));
        edges.edge("STUCK now", e -> e.is("until(1)", one("love 9 b=1", 50, 50).until(1), 0));
        edges.edge("STUCK behind 40 DAYS", e -> e.is("until(1)", chain().until(1), 40));
        edges.edge("STUCK behind 41 DAYS", e -> {
            ThickerBook x = longChain();
            e.is("until(1)", x.until(1), -5);
            x.pass(1);
            e.is("until(1) a DAY later", x.until(1), 40);
        });
        edges.edge("never STUCK", e -> e.is("until(1)", one("", 50, 40).until(1), -5));
        edges.of(16, "(DAYS beyond 9999, too), and changes nothing");
        edges.edge("STUCK beyond DAY 9999", e -> {
            ThickerBook x = onTheLastDay();
            Calls.books(x, 50, 40);
            Calls.readers(x, 0, 0);
            x.lend(0, 0);
            Calls.town(x, "love 1 b=1&d=2");
            e.is("until(1)", x.until(1), 4);
        });
        edges.edge("changes nothing", e -> {
            ThickerBook x = chain();
            e.unchanged("until(0), until(1)", x, () -> {
                x.until(0);
                x.until(1);
            });
        });
    }

    // ---- promise 17

    private static void few(Edges edges) {
        edges.of(17, "by how few GOES of anybody, one behind the other, it can HAVE that (0: it has; -5: by none)");
        edges.edge("it has", e -> e.is("few(0, 0)", one("", 50, 40).few(0, 0), 0));
        edges.edge("by one", e -> e.is("few(0, 1)", one("", 50, 40).few(0, 1), 1));
        edges.edge("by none", e -> e.is("few(0, 1)", one("", 50, 50).few(0, 1), -5));
        edges.edge("by none, a THICKER one", e -> e.is("few(0, 1)", one("", 50, 60).few(0, 1), -5));
        edges.edge("by another's GO first", e -> {
            ThickerBook x = Calls.made(Calls.row(50, 40, 30), Calls.row(0, 0, 0, 0), 0, 1);
            e.is("few(0, 1)", x.few(0, 1), 2);
        });
        edges.edge("what it HAD by none", e -> {
            ThickerBook x = one("", 50, 40);
            x.lend(0, 1);
            e.is("few(0, 0)", x.few(0, 0), -5);
        });
        edges.of(17, "who HAS none MAY take none");
        edges.edge("HAS none", e -> {
            ThickerBook x = Calls.made(Calls.row(50, 1), Calls.row(0, 0, 0, 0), -1, 0);
            e.is("few(0, 0)", x.few(0, 0), -5);
            e.is("few(0, 1)", x.few(0, 1), -5);
        });
        edges.edge("the first of four HAS none", e -> {
            ThickerBook x = Calls.made(Calls.row(50, 40, 30, 20), Calls.row(0, 0, 0, 0, 0, 0, 0, 0), -1, 0, -1, 1);
            e.is("few(1, 0)", x.few(1, 0), 0);
            e.is("few(1, 3)", x.few(1, 3), 1);
            e.is("few(3, 3)", x.few(3, 3), 1);
            e.is("few(0, 3)", x.few(0, 3), -5);
        });
        edges.edge("all four HAVE none", e -> {
            ThickerBook x = Calls.made(Calls.row(50, 40), Calls.row(0, 0, 0, 0, 0, 0, 0, 0), -1, -1, -1, -1);
            e.is("few(3, 0)", x.few(3, 0), -5);
            e.is("most(0)", x.most(0), 0);
            e.is("most(1)", x.most(1), 0);
            e.is("most(13)", x.most(13), -5);
        });
        edges.of(17, "goes on from how all is");
        edges.edge("asked again when all is otherwise", e -> {
            ThickerBook x = one("", 50, 40, 30);
            e.is("few(0, 1)", x.few(0, 1), 1);
            x.lend(0, 2);
            e.is("few(0, 1) from book 2", x.few(0, 1), -5);
            e.is("never()", x.never(), 3);
            e.is("most(10)", x.most(10), 2);
        });
        edges.of(17, "and changes nothing");
        edges.edge("changes nothing", e -> {
            ThickerBook x = Calls.made(Calls.row(50, 40, 30), Calls.row(0, 0, 0, 0), 0, 1);
            e.unchanged("few(0, 1)", x, () -> x.few(0, 1));
        });
    }

    /** Two that HAVE BOOKS of the same THICK. */
    private static int fewToChange(String town, int kind, int v) {
        ThickerBook x = Calls.made(Calls.row(50, 50), Calls.row(0, 0, kind, v), 0, 1);
        Calls.town(x, town);
        return x.few(0, 1);
    }

    private static void changes(Edges edges) {
        edges.of(17, "or two who HAVE one each change these, if LIKING of each for the other's is greater than for its own");
        edges.edge("both like by 1 more", e -> e.is("few(0, 1)", fewToChange("love 1 r=0&b=1;love 1 r=1&b=0", 0, 0), 1));
        edges.edge("the first likes alike", e -> e.is("few(0, 1)", fewToChange("love 1 r=1&b=0", 0, 0), -5));
        edges.edge("the second likes alike", e -> e.is("few(0, 1)", fewToChange("love 1 r=0&b=1", 0, 0), -5));
        edges.edge("both like alike", e -> e.is("few(0, 1)", fewToChange("love 1 r<9", 0, 0), -5));
        edges.edge("as much as v of what it HAS", e -> {
            e.is("few(0, 1)", fewToChange("love 1 r=0&b=1;love 4 r=1&b=0", 3, 4), -5);
        });
        edges.edge("1 more than v of what it HAS", e -> {
            e.is("few(0, 1)", fewToChange("love 1 r=0&b=1;love 5 r=1&b=0", 3, 4), 1);
        });
        edges.edge("none to change", e -> {
            ThickerBook x = Calls.made(Calls.row(50, 50), Calls.row(0, 0, 0, 0), 0, -1);
            Calls.town(x, "love 1 r=1&b=0;bore 1 r=0&b=0");
            e.is("few(1, 0)", x.few(1, 0), -5);
            ThickerBook y = Calls.made(Calls.row(50, 50), Calls.row(0, 0, 0, 0), -1, 0);
            Calls.town(y, "love 1 r=0&b=0;bore 1 r=1&b=0");
            e.is("few(0, 0)", y.few(0, 0), -5);
            e.is("never()", y.never(), 2);
        });
        edges.edge("the first and the last of four", e -> {
            ThickerBook x = Calls.made(Calls.row(50, 50, 50, 50), Calls.row(0, 0, 0, 0, 0, 0, 0, 0), 0, 1, 2, 3);
            Calls.town(x, "love 1 r=0&b=3;love 1 r=3&b=0");
            e.is("few(0, 3)", x.few(0, 3), 1);
            e.is("few(3, 0)", x.few(3, 0), 1);
        });
        edges.of(17, "A GO (DAY staying)");
        edges.edge("liked on another DAY", e -> e.is("few(0, 1)", fewToChange("love 1 d=1&(r=0&b=1|r=1&b=0)", 0, 0), -5));
    }

    private static void refusedFew(Edges edges) {
        edges.of(17, "`int few(int reader, int book)`: FEW; -5. NONE.");
        edges.edge("one below 0", e -> e.is("few(-1, 0)", chain().few(-1, 0), NONE));
        edges.edge("one beyond the last", e -> {
            e.is("few(4, 0)", chain().few(4, 0), NONE);
            e.is("few(1, 0)", one("", 50).few(1, 0), NONE);
        });
        edges.edge("a BOOK below 0", e -> {
            e.is("few(0, -1)", chain().few(0, -1), NONE);
            e.is("few(0, -5)", chain().few(0, -5), NONE);
        });
        edges.edge("a BOOK beyond the last", e -> {
            e.is("few(0, 5)", chain().few(0, 5), NONE);
            e.is("few(0, 7)", chain().few(0, 7), NONE);
        });
        edges.edge("an eighth BOOK for who HAS none", e -> {
            ThickerBook x = Calls.made(Calls.row(1, 2, 3, 4, 5, 6, 7), Calls.row(0, 0));
            e.is("few(0, 7)", x.few(0, 7), NONE);
        });
    }

    // ---- promise 18

    private static void reach(Edges edges) {
        edges.of(18, "REACH of one: those BOOKS, as bits, that it can HAVE so.");
        edges.edge("what it HAS, by no GO", e -> e.is("reach(0)", one("", 50, 50, 60).reach(0), 1));
        edges.edge("HAS none", e -> {
            ThickerBook x = Calls.made(Calls.row(50, 1), Calls.row(0, 0));
            e.is("reach(0)", x.reach(0), 0);
        });
        edges.edge("all seven", e -> e.is("reach(0)", one("", 70, 60, 50, 40, 30, 20, 10).reach(0), 127));
        edges.edge("the last of four", e -> {
            ThickerBook x = Calls.made(Calls.row(70, 60, 50, 40, 30, 20, 10), Calls.row(0, 0, 0, 0, 0, 0, 0, 0), 0, 1, 2, 3);
            e.is("reach(3)", x.reach(3), 120);
        });
        edges.of(18, "`int reach(int reader)`: REACH (bits). NONE.");
        edges.edge("one below 0", e -> e.is("reach(-1)", chain().reach(-1), NONE));
        edges.edge("one beyond the last", e -> {
            e.is("reach(4)", chain().reach(4), NONE);
            e.is("reach(1)", one("", 50).reach(1), NONE);
        });
        edges.edge("nobody", e -> e.is("reach(0)", new ThickerBook().reach(0), NONE));
        edges.of(18, "and changes nothing");
        edges.edge("changes nothing", e -> {
            ThickerBook x = chain();
            e.unchanged("reach(0)", x, () -> x.reach(0));
        });
    }

    // ---- promise 19

    private static void never(Edges edges) {
        edges.of(19, "NEVER: those BOOKS, as bits, that none of READERS can HAVE so.");
        edges.edge("nobody", e -> e.is("never()", Calls.made(Calls.row(1, 2, 3, 4, 5, 6, 7), Calls.row()).never(), 127));
        edges.edge("no BOOKS", e -> e.is("never()", Calls.made(Calls.row(), Calls.row(0, 0)).never(), 0));
        edges.edge("all HAVE none", e -> e.is("never()", Calls.made(Calls.row(50, 1), Calls.row(0, 0, 0, 0)).never(), 3));
        edges.edge("what one HAS already", e -> e.is("never()", one("", 50, 60).never(), 2));
        edges.edge("one just as THICK", e -> e.is("never()", one("", 50, 50).never(), 2));
        edges.edge("none", e -> e.is("never()", one("", 70, 60, 50, 40, 30, 20, 10).never(), 0));
        edges.edge("what only the last can have", e -> {
            ThickerBook x = Calls.made(Calls.row(10, 20, 30), Calls.row(0, 0, 0, 0), 0, 2);
            e.is("never()", x.never(), 0);
        });
        edges.of(19, "and changes nothing");
        edges.edge("changes nothing", e -> {
            ThickerBook x = chain();
            e.unchanged("never()", x, () -> x.never());
        });
    }

    // ---- promise 20

    private static void most(Edges edges) {
        edges.of(20, "MOST: the greatest TOTAL behind any GOES; by how few; what one HAS then");
        edges.edge("nobody", e -> {
            e.is("most(0)", new ThickerBook().most(0), 0);
            e.is("most(1)", new ThickerBook().most(1), 0);
        });
        edges.edge("behind no GO", e -> {
            ThickerBook x = one("love 9 b=0", 50, 40);
            e.is("most(0)", x.most(0), 9);
            e.is("most(1)", x.most(1), 0);
            e.is("most(10)", x.most(10), 0);
        });
        edges.edge("TOTAL below 0", e -> {
            ThickerBook x = one("bore 9 b=0;bore 3 b=1;bore 5 b=2", 50, 40, 30);
            e.is("most(0)", x.most(0), -3);
            e.is("most(1)", x.most(1), 1);
            e.is("most(10)", x.most(10), 1);
        });
        edges.edge("TOTAL by 1 more", e -> {
            ThickerBook x = one("love 4 b=0;love 5 b=2", 50, 40, 30);
            e.is("most(0)", x.most(0), 5);
            e.is("most(10)", x.most(10), 2);
        });
        edges.edge("the last of 798 ways, by seven GOES", e -> {
            int[] rows = {9, 8, 1, 0, 8, 9, 2, 8, 7, 5, 2, 3, 9, 0, 6, 1};
            ThickerBook x = told(Calls.row(99, 96, 78, 61, 50, 34, 20), rows);
            e.is("most(0)", x.most(0), 8 + 8 + 7 + 9);
            e.is("most(1)", x.most(1), 7);
            haves(e, x, 3, 0, 1, 6);
        });
        edges.edge("the last of all 840 ways", e -> {
            int[] rows = {9, 3, 8, 8, 9, 2, 6, 0, 0, 2, 4, 5, 9, 5, 1, 6};
            ThickerBook x = told(Calls.row(37, 95, 72, 90, 13, 2, 17), rows);
            e.is("most(0)", x.most(0), 8 + 6 + 5 + 9);
            e.is("most(1)", x.most(1), 4);
            haves(e, x, 3, 5, 1, 2);
        });
        edges.edge("HAS none", e -> {
            ThickerBook x = Calls.made(Calls.row(50, 40), Calls.row(0, 0, 0, 0), -1, 0);
            Calls.town(x, "love 1 b=1");
            e.is("most(10)", x.most(10), -5);
            e.is("most(11)", x.most(11), 1);
        });
        edges.of(20, "and changes nothing");
        edges.edge("changes nothing", e -> {
            ThickerBook x = one("love 4 b=0;love 5 b=2", 50, 40, 30);
            e.unchanged("most(0)", x, () -> x.most(0));
        });
    }

    /** Four TOLD ones with these ROWS, each with the BOOK of its own number; what is due was searched apart from the class. */
    private static ThickerBook told(int[] thick, int[] rows) {
        ThickerBook x = Calls.made(thick, Calls.row(6, 0, 6, 0, 6, 0, 6, 0), 0, 1, 2, 3);
        for (int i = 0; i < rows.length; i++) {
            x.row(i / 4, i % 4, rows[i]);
        }
        return x;
    }

    private static void haves(Edge e, ThickerBook x, int... books) {
        for (int r = 0; r < books.length; r++) {
            e.is("most(" + (10 + r) + ")", x.most(10 + r), books[r]);
        }
    }

    private static void mostOfSeveral(Edges edges) {
        edges.of(20, "(of several ways to HAVE them so, the first as a row by READERS, the BOOK of the lesser number first, "
            + "none last; by how few GOES: of just that one)");
        edges.edge("the lesser number first", e -> {
            ThickerBook x = Calls.made(Calls.row(20, 30, 40), Calls.row(0, 0), 2);
            e.is("most(10)", x.most(10), 0);
        });
        edges.edge("by how few of just that one", e -> {
            // As it is TOTAL is as great, but books 0 and 1 are the first row, by two GOES.
            ThickerBook x = Calls.made(Calls.row(20, 30, 40, 60), Calls.row(0, 0, 0, 0), 3, 2);
            e.is("most(0)", x.most(0), 0);
            e.is("most(1)", x.most(1), 2);
        });
        edges.edge("by READERS from the first on", e -> {
            // Either one can have book 0, and the other one then book 1.
            ThickerBook x = Calls.made(Calls.row(20, 30, 40, 60), Calls.row(0, 0, 0, 0), 3, 2);
            e.is("most(10)", x.most(10), 0);
            e.is("most(11)", x.most(11), 1);
        });
        edges.edge("as it is, the first row", e -> {
            ThickerBook x = one("", 50, 40, 30);
            e.is("most(1)", x.most(1), 0);
            e.is("most(10)", x.most(10), 0);
        });
        edges.edge("who HAS none has none in each row", e -> {
            ThickerBook x = Calls.made(Calls.row(20, 30, 40), Calls.row(0, 0, 0, 0, 0, 0), -1, 2, -1);
            e.is("most(10)", x.most(10), -5);
            e.is("most(11)", x.most(11), 0);
            e.is("most(12)", x.most(12), -5);
        });
    }

    private static void refusedMost(Edges edges) {
        edges.of(20, "MOST: what 0 TOTAL, 1 by how few, 10 and r what one HAS (-5). -10001: NONE.");
        edges.edge("what below 0", e -> e.is("most(-1)", chain().most(-1), NO_NUMBER));
        edges.edge("what between 1 and 10", e -> {
            e.is("most(2)", chain().most(2), NO_NUMBER);
            e.is("most(9)", chain().most(9), NO_NUMBER);
        });
        edges.edge("what beyond the last of READERS", e -> {
            e.is("most(14)", chain().most(14), NO_NUMBER);
            e.is("most(11)", one("", 50).most(11), NO_NUMBER);
            e.is("most(10)", new ThickerBook().most(10), NO_NUMBER);
        });
        edges.edge("what that wraps around by 10", e -> {
            e.is("most(the least int)", chain().most(Integer.MIN_VALUE), NO_NUMBER);
            e.is("most(the least int and 10)", chain().most(Integer.MIN_VALUE + 10), NO_NUMBER);
        });
    }
}
