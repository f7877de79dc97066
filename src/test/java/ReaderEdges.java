/** Promises 4 and 5: BOOKS and READERS come. */
final class ReaderEdges {
    private static final int NONE = -1, BAD = -2, FULL = -4;

    private ReaderEdges() {
    }

    static void add(Edges edges) {
        books(edges);
        refusedBooks(edges);
        readers(edges);
        refusedReaders(edges);
        readersFull(edges);
    }

    private static ThickerBook withBooks(int n) {
        ThickerBook x = new ThickerBook();
        for (int i = 0; i < n; i++) {
            x.book(50);
        }
        return x;
    }

    private static ThickerBook withReaders(int n) {
        ThickerBook x = new ThickerBook();
        for (int i = 0; i < n; i++) {
            x.reader(0, 0);
        }
        return x;
    }

    // ---- promise 4

    private static void books(Edges edges) {
        edges.of(4, "`int book(int thick)`: A BOOK, ON THE SHELF: its number.");
        edges.edge("ON THE SHELF", e -> {
            ThickerBook x = withBooks(2);
            e.is("told(4)", x.told(4), 3);
            e.is("at(0, 1)", x.at(0, 1), -5);
        });
        edges.of(4, "BOOKS are numbered from 0 on, 7 at most");
        edges.edge("from 0 on", e -> {
            ThickerBook x = new ThickerBook();
            e.is("book(50)", x.book(50), 0);
            e.is("book(50)", x.book(50), 1);
        });
        edges.edge("the seventh BOOK", e -> e.is("book(50)", withBooks(6).book(50), 6));
        edges.edge("an eighth BOOK", e -> e.is("book(50)", withBooks(7).book(50), FULL));
        edges.of(4, "each THICK (1 .. 99)");
        edges.edge("the least THICK", e -> {
            ThickerBook x = new ThickerBook();
            e.is("book(1)", x.book(1), 0);
            e.is("at(0, 0)", x.at(0, 0), 1);
        });
        edges.edge("the greatest THICK", e -> {
            ThickerBook x = new ThickerBook();
            e.is("book(99)", x.book(99), 0);
            e.is("at(0, 0)", x.at(0, 0), 99);
        });
    }

    private static void refusedBooks(Edges edges) {
        edges.of(4, "BAD: thick; FULL: 7.");
        edges.edge("THICK 0", e -> e.is("book(0)", new ThickerBook().book(0), BAD));
        edges.edge("THICK below 0", e -> {
            e.is("book(-1)", new ThickerBook().book(-1), BAD);
            e.is("book(the least int)", new ThickerBook().book(Integer.MIN_VALUE), BAD);
        });
        edges.edge("THICK 100", e -> e.is("book(100)", new ThickerBook().book(100), BAD));
        edges.edge("THICK above 100", e -> e.is("book(the greatest int)", new ThickerBook().book(Integer.MAX_VALUE), BAD));
        edges.edge("BAD ahead of FULL", e -> {
            e.is("book(0) when FULL", withBooks(7).book(0), BAD);
            e.is("book(100) when FULL", withBooks(7).book(100), BAD);
        });
        edges.of(4, "They change nothing.");
        edges.edge("a BAD BOOK changes nothing", e -> {
            ThickerBook x = withBooks(2);
            e.unchanged("book(0), book(100)", x, () -> {
                x.book(0);
                x.book(100);
            });
        });
        edges.edge("a BOOK too many changes nothing", e -> {
            ThickerBook x = withBooks(7);
            e.unchanged("book(7)", x, () -> x.book(7));
        });
    }

    // ---- promise 5

    private static void readers(Edges edges) {
        edges.of(5, "READERS are numbered from 0 on, 4 at most");
        edges.edge("from 0 on", e -> {
            ThickerBook x = new ThickerBook();
            e.is("reader(0, 0)", x.reader(0, 0), 0);
            e.is("reader(0, 0)", x.reader(0, 0), 1);
        });
        edges.edge("the fourth", e -> e.is("reader(0, 0)", withReaders(3).reader(0, 0), 3));
        edges.edge("a fifth", e -> e.is("reader(0, 0)", withReaders(4).reader(0, 0), FULL));
        edges.of(5, "0 READER; 1 THIN, 2 WANTING, 3 STILL under READER; 4 STEPPING under THIN; 5 GLUING under WANTING; "
            + "6 TOLD under STILL");
        edges.edge("the first KIND", e -> isReader(e, 0, 5));
        edges.edge("the last KIND", e -> isReader(e, 6, 5));
        edges.of(5, "a number v (0 .. 9)");
        edges.edge("the least v", e -> isReader(e, 2, 0));
        edges.edge("the greatest v", e -> isReader(e, 2, 9));
        edges.of(5, "what it HAS (a BOOK, or none; none at first)");
        edges.edge("HAS none at first", e -> {
            ThickerBook x = withBooks(1);
            x.reader(0, 0);
            e.is("of(0, 2)", x.of(0, 2), -5);
            e.is("at(0, 1)", x.at(0, 1), -5);
        });
    }

    private static void isReader(Edge e, int kind, int v) {
        ThickerBook x = new ThickerBook();
        e.is("reader(" + kind + ", " + v + ")", x.reader(kind, v), 0);
        e.is("of(0, 0)", x.of(0, 0), kind);
        e.is("of(0, 1)", x.of(0, 1), v);
    }

    private static void refusedReaders(Edges edges) {
        edges.of(5, "NONE: kind; BAD: v; FULL: 4.");
        edges.edge("KIND below 0", e -> {
            e.is("reader(-1, 0)", new ThickerBook().reader(-1, 0), NONE);
            e.is("reader(the least int, 0)", new ThickerBook().reader(Integer.MIN_VALUE, 0), NONE);
        });
        edges.edge("KIND above 6", e -> {
            e.is("reader(7, 0)", new ThickerBook().reader(7, 0), NONE);
            e.is("reader(the greatest int, 0)", new ThickerBook().reader(Integer.MAX_VALUE, 0), NONE);
        });
        edges.edge("v below 0", e -> {
            e.is("reader(0, -1)", new ThickerBook().reader(0, -1), BAD);
            e.is("reader(0, the least int)", new ThickerBook().reader(0, Integer.MIN_VALUE), BAD);
        });
        edges.edge("v above 9", e -> {
            e.is("reader(0, 10)", new ThickerBook().reader(0, 10), BAD);
            e.is("reader(0, the greatest int)", new ThickerBook().reader(0, Integer.MAX_VALUE), BAD);
        });
        edges.edge("NONE ahead of BAD", e -> {
            e.is("reader(7, 10)", new ThickerBook().reader(7, 10), NONE);
            e.is("reader(-1, -1)", new ThickerBook().reader(-1, -1), NONE);
        });
    }

    private static void readersFull(Edges edges) {
        edges.of(5, "NONE: kind; BAD: v; FULL: 4.");
        edges.edge("NONE ahead of FULL", e -> e.is("reader(7, 0) when FULL", withReaders(4).reader(7, 0), NONE));
        edges.edge("BAD ahead of FULL", e -> e.is("reader(0, 10) when FULL", withReaders(4).reader(0, 10), BAD));
        edges.of(5, "They change nothing.");
        edges.edge("one of no KIND changes nothing", e -> {
            ThickerBook x = withReaders(2);
            e.unchanged("reader(7, 0)", x, () -> x.reader(7, 0));
        });
        edges.edge("one of a BAD v changes nothing", e -> {
            ThickerBook x = withReaders(2);
            e.unchanged("reader(0, 10)", x, () -> x.reader(0, 10));
        });
        edges.edge("one too many changes nothing", e -> {
            ThickerBook x = withReaders(4);
            e.unchanged("reader(1, 1)", x, () -> x.reader(1, 1));
        });
    }
}
