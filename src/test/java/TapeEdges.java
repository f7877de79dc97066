/** Promises 1 to 3: a new object, THE TAPE, TOWNS. */
final class TapeEdges {
    private static final int NONE = -1, BAD = -2, FULL = -4;
    // 100 signs, a TOWN.
    private static final String LONG = "love 1 " + "r=0|".repeat(22) + "!r=10";

    private TapeEdges() {
    }

    static void add(Edges edges) {
        nothingYet(edges);
        noTown(edges);
        signs(edges);
        refusedSigns(edges);
        clauses(edges);
        blanks(edges);
        numbers(edges);
        digits(edges);
        tests(edges);
        joins(edges);
        parts(edges);
        open(edges);
        openAgain(edges);
        faults(edges);
        towns(edges);
        tapeThen(edges);
        gapAndPaste(edges);
    }

    private static void fault(Edge e, String text, int place) {
        e.is("town() of '" + text + "'", Calls.town(text), -10 - place);
    }

    private static void fine(Edge e, String text) {
        e.is("town() of '" + text + "'", Calls.town(text), 0);
    }

    // ---- promise 1

    private static void nothingYet(Edges edges) {
        edges.of(1, "`ThickerBook()`: No BOOKS, nobody, no TOWN.");
        edges.edge("no BOOKS", e -> {
            ThickerBook x = new ThickerBook();
            e.is("count(1)", x.count(1), 0);
            e.is("at(0, 0)", x.at(0, 0), NONE);
            e.is("told(4)", x.told(4), 0);
        });
        edges.edge("nobody", e -> {
            ThickerBook x = new ThickerBook();
            e.is("count(0)", x.count(0), 0);
            e.is("of(0, 0)", x.of(0, 0), NONE);
        });
        edges.edge("no TOWN", e -> e.is("count(2)", new ThickerBook().count(2), 0));
        edges.of(1, "DAY: 0 at first.");
        edges.edge("DAY", e -> e.is("told(0)", new ThickerBook().told(0), 0));
        edges.of(1, "An object is used for at most 512 calls after it has been made");
        edges.edge("the 512th call", e -> {
            ThickerBook x = new ThickerBook();
            for (int call = 1; call < 512; call++) {
                x.pass(1);
            }
            e.is("pass(1)", x.pass(1), 512);
        });
    }

    private static void noTown(Edges edges) {
        edges.of(1, "without one there are no CLAUSES");
        edges.edge("no CLAUSES", e -> {
            ThickerBook x = Calls.made(Calls.row(50), Calls.row(0, 5));
            e.is("likes(0, 0)", x.likes(0, 0), 0);
        });
        edges.of(1, "GAP (1 without), PASTE (5 without; 1 if less): the last n.");
        edges.edge("GAP without a TOWN", e -> e.is("told(1)", new ThickerBook().told(1), 1));
        edges.edge("PASTE without a TOWN", e -> {
            ThickerBook x = Calls.made(Calls.row(50), Calls.row(0, 0), 0);
            e.is("told(2)", x.told(2), 5);
            e.is("paste(0, true)", x.paste(0, true), 55);
        });
        edges.of(1, "`int count(int what)`: 0 READERS, 1 BOOKS, 2 TOWNS, 3 of SEEN, 4 of the PLAN, 5 of NOTES, "
            + "6 signs of THE TAPE, 7 bodies that ran in the latest act()");
        edges.edge("nothing SEEN, no PLAN, no NOTES, no sign, no act", e -> {
            ThickerBook x = new ThickerBook();
            for (int what = 3; what <= 7; what++) {
                e.is("count(" + what + ")", x.count(what), 0);
            }
        });
    }

    // ---- promise 2

    private static void signs(Edges edges) {
        edges.of(2, "A sign (0 .. 127) comes behind THE TAPE's: how many it has.");
        edges.edge("the least sign", e -> e.is("feed(0)", new ThickerBook().feed(0), 1));
        edges.edge("the greatest sign", e -> e.is("feed(127)", new ThickerBook().feed(127), 1));
        edges.edge("how many from the first on", e -> {
            ThickerBook x = new ThickerBook();
            e.is("feed('g')", x.feed('g'), 1);
            e.is("feed('a')", x.feed('a'), 2);
        });
        edges.of(2, "THE TAPE (bytes, 100 at most)");
        edges.edge("the 100th sign", e -> {
            ThickerBook x = new ThickerBook();
            Calls.feed(x, LONG.substring(1));
            e.is("feed, the 100th", x.feed('g'), 100);
        });
        edges.edge("a 101st sign", e -> {
            ThickerBook x = new ThickerBook();
            Calls.feed(x, LONG);
            e.is("feed, the 101st", x.feed('g'), FULL);
        });
    }

    private static void refusedSigns(Edges edges) {
        edges.of(2, "`int feed(int sign)`: A sign (0 .. 127) comes behind THE TAPE's: how many it has. BAD; FULL.");
        edges.edge("a sign below 0", e -> {
            e.is("feed(-1)", new ThickerBook().feed(-1), BAD);
            e.is("feed(the least int)", new ThickerBook().feed(Integer.MIN_VALUE), BAD);
        });
        edges.edge("a sign above 127", e -> {
            e.is("feed(128)", new ThickerBook().feed(128), BAD);
            e.is("feed(the greatest int)", new ThickerBook().feed(Integer.MAX_VALUE), BAD);
        });
        edges.edge("BAD ahead of FULL", e -> {
            ThickerBook x = new ThickerBook();
            Calls.feed(x, LONG);
            e.is("feed(128) when FULL", x.feed(128), BAD);
            e.is("feed(-1) when FULL", x.feed(-1), BAD);
        });
        edges.of(2, "They change nothing.");
        edges.edge("a BAD sign changes nothing", e -> {
            ThickerBook x = new ThickerBook();
            x.feed('g');
            x.feed(128);
            e.is("count(6)", x.count(6), 1);
            Calls.feed(x, "ap 7");
            e.is("town()", x.town(), 0);
        });
        edges.edge("a sign too many changes nothing", e -> {
            ThickerBook x = new ThickerBook();
            Calls.feed(x, LONG);
            x.feed('x');
            e.is("count(6)", x.count(6), 100);
            e.is("town()", x.town(), 0);
        });
    }

    // ---- promise 3

    private static void clauses(Edges edges) {
        edges.of(3, "CLAUSES, 10 at most, with ; between");
        edges.edge("ten CLAUSES", e -> fine(e, "gap 1;".repeat(9) + "gap 2"));
        edges.edge("an eleventh CLAUSE", e -> fault(e, "gap 1;".repeat(10) + "gap 2", 59));
        edges.edge("no CLAUSE", e -> fault(e, "", 0));
        edges.edge("; ahead of all", e -> fault(e, ";gap 1", 0));
        edges.edge("; behind all", e -> fault(e, "gap 1;", 6));
        edges.edge("; twice", e -> fault(e, "gap 1;;gap 2", 6));
        edges.edge("no ; between", e -> fault(e, "gap 1gap 2", 5));
    }

    private static void blanks(Edges edges) {
        edges.of(3, "(one blank ahead of each part behind the word; n 1 or 2 digits, no 0 ahead of another)");
        edges.edge("no blank behind the word", e -> {
            fault(e, "gap1", 3);
            fault(e, "paste1", 5);
            fault(e, "love1 r=1", 4);
            fault(e, "bore1 r=1", 4);
        });
        edges.edge("two blanks behind the word", e -> fault(e, "gap  1", 4));
        edges.edge("no blank ahead of E", e -> fault(e, "love 1r=1", 6));
        edges.edge("two blanks ahead of E", e -> fault(e, "love 1  r=1", 7));
        edges.edge("a blank ahead of all", e -> fault(e, " gap 1", 0));
        edges.edge("a blank behind all", e -> fault(e, "gap 1 ", 5));
        edges.edge("a blank behind ;", e -> fault(e, "gap 1; gap 2", 6));
        edges.edge("a blank within E", e -> fault(e, "love 1 r=1 |r=1", 10));
        edges.edge("another sign for the blank", e -> fault(e, "gap\t1", 3));
    }

    private static void numbers(Edges edges) {
        edges.of(3, "n 1 or 2 digits, no 0 ahead of another");
        edges.edge("no digit", e -> {
            fault(e, "gap ", 4);
            fault(e, "gap x", 4);
            fault(e, "gap -1", 4);
        });
        edges.edge("the least n", e -> isGap(e, "0", 0));
        edges.edge("the greatest n of 1 digit", e -> isGap(e, "9", 9));
        edges.edge("the least n of 2 digits", e -> isGap(e, "10", 10));
        edges.edge("the greatest n", e -> isGap(e, "99", 99));
        edges.edge("3 digits", e -> fault(e, "gap 100", 6));
        edges.edge("0 ahead of another digit", e -> {
            fault(e, "gap 00", 5);
            fault(e, "gap 01", 5);
            fault(e, "love 05 r=1", 6);
        });
    }

    private static void isGap(Edge e, String n, int gap) {
        ThickerBook x = new ThickerBook();
        e.is("town() of 'gap " + n + "'", Calls.town(x, "gap " + n), 0);
        e.is("told(1)", x.told(1), gap);
    }

    private static void digits(Edges edges) {
        edges.of(3, "n 1 or 2 digits");
        edges.edge("the sign below the digits, first", e -> fault(e, "gap /", 4));
        edges.edge("the sign above the digits, first", e -> fault(e, "gap :", 4));
        edges.edge("the sign below the digits, second", e -> fault(e, "gap 1/", 5));
        edges.edge("the sign above the digits, second", e -> fault(e, "gap 1:", 5));
    }

    private static void tests(Edges edges) {
        edges.of(3, "one of < = >, a number likewise");
        edges.edge("the sign below <", e -> fault(e, "love 1 r;1", 8));
        edges.edge("the sign above >", e -> fault(e, "love 1 r?1", 8));
        edges.edge("two of < = >", e -> fault(e, "love 1 r<=1", 9));
        edges.edge("none of < = >", e -> fault(e, "love 1 r1", 8));
        edges.edge("a TEST without a number", e -> {
            fault(e, "love 1 r=", 9);
            fault(e, "love 1 r=r", 9);
        });
        edges.edge("a TEST by 3 digits", e -> fault(e, "love 1 r=100", 11));
        edges.edge("a TEST by 0 ahead of another digit", e -> fault(e, "love 1 r=00", 10));
        edges.of(3, "a TEST: r or k or v or b or t or d");
        edges.edge("another letter", e -> {
            for (char c = 0; c < 128; c++) {
                if ("rkvbtd!(".indexOf(c) < 0) fault(e, "love 1 " + c + "=1", 7);
            }
        });
        edges.edge("each letter", e -> fine(e, "love 1 r=1|k=1|v=1|b=1|t=1|d=1"));
    }

    private static void joins(Edges edges) {
        edges.of(3, "E: T, or T|E.");
        edges.edge("no E", e -> {
            fault(e, "love 1 ", 7);
            fault(e, "love 1", 6);
            fault(e, "love 1 ;gap 1", 7);
        });
        edges.edge("| ahead of E", e -> fault(e, "love 1 |r=1", 7));
        edges.edge("| behind E", e -> fault(e, "love 1 r=1|", 11));
        edges.edge("| twice", e -> fault(e, "love 1 r=1||r=1", 11));
        edges.of(3, "T: F, or F&T.");
        edges.edge("& ahead of T", e -> fault(e, "love 1 &r=1", 7));
        edges.edge("& behind T", e -> fault(e, "love 1 r=1&", 11));
        edges.edge("& twice", e -> fault(e, "love 1 r=1&&r=1", 11));
        edges.edge("| behind &", e -> fault(e, "love 1 r=1&|r=1", 11));
    }

    private static void parts(Edges edges) {
        edges.of(3, "F: !F, (E), or a TEST");
        edges.edge("( with nothing in it", e -> fault(e, "love 1 ()", 8));
        edges.edge("( at the end", e -> fault(e, "love 1 (", 8));
        edges.edge("( without )", e -> {
            fault(e, "love 1 (r=1", 11);
            fault(e, "love 1 (r=1;gap 1", 11);
        });
        edges.edge(") without (", e -> {
            fault(e, "love 1 r=1)", 10);
            fault(e, "love 1 )", 7);
        });
        edges.edge("! at the end", e -> fault(e, "love 1 !", 8));
        edges.edge("! ahead of no F", e -> {
            fault(e, "love 1 !&r=1", 8);
            fault(e, "love 1 (!)", 9);
        });
        edges.edge("! behind F", e -> fault(e, "love 1 r=1!", 10));
    }

    private static void open(Edges edges) {
        edges.of(3, "At most 5 of ! and ( are open (a ( till its ) , a ! till its F ends).");
        edges.edge("five !", e -> fine(e, "love 1 !!!!!r=1"));
        edges.edge("a sixth !", e -> fault(e, "love 1 !!!!!!r=1", 12));
        edges.edge("five (", e -> fine(e, "love 1 (((((r=1)))))"));
        edges.edge("a sixth (", e -> fault(e, "love 1 ((((((r=1))))))", 12));
        edges.edge("five of both", e -> fine(e, "love 1 !(!(!r=1))"));
        edges.edge("a sixth ( of both", e -> fault(e, "love 1 !(!(!(r=1)))", 12));
        edges.edge("a sixth ! of both", e -> fault(e, "love 1 (!(!(!r=1)))", 12));
    }

    private static void openAgain(Edges edges) {
        edges.of(3, "(a ( till its ) , a ! till its F ends)");
        edges.edge("five ( behind five closed", e -> fine(e, "love 1 (((((r=1)))))&(((((r=1)))))"));
        edges.edge("five ! behind five ended", e -> fine(e, "love 1 !!!!!r=1&!!!!!r=1"));
        edges.edge("five behind an ended one in a (", e -> fine(e, "love 1 (!!!!r=1|!!!!r=1)&!!!!!r=1"));
        edges.edge("a ( is open behind | in it", e -> fault(e, "love 1 (!!!!r=1|!!!!!r=1)", 20));
        edges.edge("a ( is open behind & in it", e -> fault(e, "love 1 (!!!!r=1&!!!!!r=1)", 20));
        edges.edge("a ! is open till its ) comes", e -> fault(e, "love 1 !(r=1&(((r=1)))|((((r=1", 26));
        edges.edge("five in the next CLAUSE", e -> fine(e, "love 1 !!!!!r=1;bore 1 (((((r=1)))))"));
    }

    private static void faults(Edges edges) {
        edges.of(3, "FAULT: the place of the first byte with which no TOWN can go on (the size, if it ends too early).");
        edges.edge("at the first byte", e -> fault(e, "x", 0));
        edges.edge("at the last of 100 bytes", e -> fault(e, LONG.substring(0, 99) + "x", 99));
        edges.edge("behind all of 100 bytes", e -> fault(e, "love 1 " + "r=0|".repeat(23) + "r", 100));
        edges.edge("the first of two", e -> fault(e, "gap x;gup", 4));
        edges.edge("within a word", e -> {
            fault(e, "gat 1", 2);
            fault(e, "pasta 1", 4);
            fault(e, "lobe 1 r=1", 2);
            fault(e, "born 1 r=1", 3);
        });
        edges.edge("too early within a word", e -> {
            fault(e, "g", 1);
            fault(e, "past", 4);
            fault(e, "lov", 3);
            fault(e, "bor", 3);
        });
        edges.edge("the sign 0", e -> {
            fault(e, "\0", 0);
            fault(e, "gap 1\0", 5);
        });
        edges.edge("the sign 127", e -> {
            fault(e, "\u007f", 0);
            fault(e, "gap 1\u007f", 5);
        });
        edges.edge("none in 100 bytes", e -> fine(e, LONG));
    }

    private static void towns(Edges edges) {
        edges.of(3, "TOWNS are numbered from 0 on, 5 at most; the newest one holds");
        edges.edge("from 0 on", e -> {
            ThickerBook x = new ThickerBook();
            e.is("the first", Calls.town(x, "gap 1"), 0);
            e.is("the second", Calls.town(x, "gap 1"), 1);
        });
        edges.edge("the fifth TOWN", e -> e.is("town()", Calls.town(withTowns(4), "gap 9"), 4));
        edges.edge("a sixth TOWN", e -> e.is("town()", Calls.town(withTowns(5), "gap 9"), FULL));
        edges.edge("the newest one holds", e -> {
            ThickerBook x = withTowns(5);
            e.is("told(1)", x.told(1), 14);
        });
        edges.of(3, "FULL (ahead of all; THE TAPE stays).");
        edges.edge("FULL ahead of a FAULT", e -> {
            e.is("town() of 'gup'", Calls.town(withTowns(5), "gup"), FULL);
            e.is("town() of ''", Calls.town(withTowns(5), ""), FULL);
        });
        edges.edge("by FULL THE TAPE stays", e -> {
            ThickerBook x = withTowns(5);
            Calls.town(x, "gap 9");
            e.is("count(6)", x.count(6), 5);
            e.is("told(1)", x.told(1), 14);
        });
    }

    /** So many TOWNS: gap 10, gap 11 and so on. */
    private static ThickerBook withTowns(int n) {
        ThickerBook x = new ThickerBook();
        for (int i = 0; i < n; i++) {
            Calls.town(x, "gap 1" + i);
        }
        return x;
    }

    private static void tapeThen(Edges edges) {
        edges.of(3, "THE TAPE, which is empty then (by a FAULT, too), is a TOWN, and holds: its number; -10 less the FAULT "
            + "(the one that held holds).");
        edges.edge("empty then", e -> {
            ThickerBook x = new ThickerBook();
            Calls.town(x, "gap 1");
            e.is("count(6)", x.count(6), 0);
            e.is("town()", x.town(), -10);
        });
        edges.edge("empty by a FAULT", e -> {
            ThickerBook x = new ThickerBook();
            Calls.town(x, "gup 1");
            e.is("count(6)", x.count(6), 0);
            e.is("the next", Calls.town(x, "gap 2"), 0);
        });
        edges.edge("by a FAULT the one that held holds", e -> {
            ThickerBook x = Calls.made(Calls.row(50), Calls.row(0, 0));
            Calls.town(x, "gap 3;paste 7;love 4 b=0");
            e.is("town()", Calls.town(x, "gap 5;paste 9;love 8 b=0;x"), -10 - 25);
            e.is("told(1)", x.told(1), 3);
            e.is("told(2)", x.told(2), 7);
            e.is("likes(0, 0)", x.likes(0, 0), 4);
        });
        edges.edge("by a FAULT no TOWN holds where none held", e -> {
            ThickerBook x = new ThickerBook();
            Calls.town(x, "gap 5;x");
            e.is("told(1)", x.told(1), 1);
        });
        edges.edge("a FAULT is no TOWN", e -> {
            ThickerBook x = new ThickerBook();
            Calls.town(x, "gup");
            e.is("count(2)", x.count(2), 0);
            e.is("the next", Calls.town(x, "gap 2"), 0);
        });
    }

    private static void gapAndPaste(Edges edges) {
        edges.of(3, "GAP (1 without), PASTE (5 without; 1 if less): the last n.");
        edges.edge("GAP without gap in the TOWN", e -> {
            ThickerBook x = withTowns(1);
            Calls.town(x, "paste 2");
            e.is("told(1)", x.told(1), 1);
        });
        edges.edge("PASTE without paste in the TOWN", e -> {
            ThickerBook x = new ThickerBook();
            Calls.town(x, "paste 9");
            Calls.town(x, "gap 2");
            e.is("told(2)", x.told(2), 5);
        });
        edges.edge("PASTE 0 is 1", e -> isPaste(e, "paste 0", 1));
        edges.edge("PASTE 1 is 1", e -> isPaste(e, "paste 1", 1));
        edges.edge("PASTE 0 behind another", e -> isPaste(e, "paste 7;paste 0", 1));
        edges.edge("GAP 0 is 0", e -> isGap(e, "0;gap 0", 0));
        edges.edge("the last GAP", e -> isGap(e, "9;gap 3;paste 2", 3));
        edges.edge("the last PASTE", e -> isPaste(e, "paste 9;paste 3;gap 2", 3));
    }

    private static void isPaste(Edge e, String text, int paste) {
        ThickerBook x = Calls.made(Calls.row(50), Calls.row(0, 0), 0);
        e.is("town() of '" + text + "'", Calls.town(x, text), 0);
        e.is("told(2)", x.told(2), paste);
        e.is("paste(0, true)", x.paste(0, true), 50 + paste);
    }
}
