/** Promises 35 to 40: acts, THE TRACE, THE IMAGE, counts. */
final class ActEdges {
    private static final int NONE = -1, STATE = -3, OTHER_KIND = -6;
    private static final int LEAST = Integer.MIN_VALUE, MOST = Integer.MAX_VALUE;

    private ActEdges() {
    }

    static void add(Edges edges) {
        acts(edges);
        refusedActs(edges);
        trace(edges);
        as(edges);
        refusedAs(edges);
        image(edges);
        undo(edges);
        undoWhatIsFull(edges);
        undoAll(edges);
        notInTheImage(edges);
        count(edges);
        countAtMost(edges);
    }

    /** Four of these KINDS, with v 6, 7, 8 and 9. */
    private static ThickerBook four(int... kinds) {
        ThickerBook x = new ThickerBook();
        for (int i = 0; i < 4; i++) {
            x.reader(kinds[i], 6 + i);
        }
        return x;
    }

    // ---- promise 35

    private static void acts(Edges edges) {
        edges.of(35, "ACTS of a READER with x (ints, wrapping): reads, brings, tells; i its number.");
        edges.edge("x + i wraps around", e -> e.is("act(3, 0, the greatest int)", four(0, 0, 0, 0).act(3, 0, MOST), LEAST + 2));
        edges.edge("- v wraps around", e -> e.is("act(0, 1, the least int)", four(0, 0, 0, 0).act(0, 1, LEAST), MOST - 5));
        edges.edge("* 2 wraps around", e -> {
            e.is("act(0, 2, 2 to the 30th and 6)", four(0, 0, 0, 0).act(0, 2, (1 << 30) + 6), LEAST);
        });
        edges.edge("x * 3 wraps around", e -> e.is("act(0, 0, 2 to the 30th)", four(1, 0, 0, 0).act(0, 0, 1 << 30), -(1 << 30)));
        edges.edge("- of the least int wraps around", e -> {
            e.is("act(0, 1, the least int and 6)", four(2, 0, 0, 0).act(0, 1, LEAST + 6), LEAST);
        });
        edges.edge("x - 1 wraps around", e -> {
            // tells(the greatest int) of STEPPING 0 by v 6, then reads(2) is 6.
            e.is("act(0, 2, the least int)", four(4, 0, 0, 0).act(0, 2, LEAST), (MOST * 3 - 6) * 2 + 6);
        });
        edges.edge("+ v wraps around", e -> {
            // TOLD of v 6 takes v away and gives it back.
            e.is("act(0, 1, the least int)", four(6, 0, 0, 0).act(0, 1, LEAST), LEAST);
        });
        edges.edge("^ below 0", e -> {
            e.is("act(0, 2, 5) of STILL", four(3, 0, 0, 0).act(0, 2, 5), -2 ^ 7);
            e.is("act(3, 0, -5) of GLUING", four(0, 0, 0, 5).act(3, 0, -5), -2 ^ 3);
        });
        edges.of(35, "the body of its KIND, or, if that has none, of the next KIND above that has one");
        edges.edge("no body but READER's", e -> e.is("act(3, 0, 9) of TOLD", four(0, 0, 0, 6).act(3, 0, 9), 12));
    }

    private static void refusedActs(Edges edges) {
        edges.of(35, "0, and no TRACE then: no such READER, act.");
        edges.edge("one below 0", e -> isNoAct(e, -1, 0));
        edges.edge("one beyond the last", e -> isNoAct(e, 4, 0));
        edges.edge("an act below 0", e -> isNoAct(e, 0, -1));
        edges.edge("an act above 2", e -> isNoAct(e, 0, 3));
        edges.edge("nobody", e -> {
            ThickerBook x = new ThickerBook();
            e.is("act(0, 0, 5)", x.act(0, 0, 5), 0);
            e.is("count(7)", x.count(7), 0);
        });
        edges.edge("the last act", e -> e.is("act(3, 2, 9)", four(0, 0, 0, 0).act(3, 2, 9), 6));
        edges.edge("no TRACE then", e -> {
            ThickerBook x = four(0, 0, 0, 0);
            x.act(0, 2, 5);
            x.act(0, 3, 5);
            e.is("trace(0)", x.trace(0), NONE);
            e.is("count(7)", x.count(7), 0);
        });
    }

    private static void isNoAct(Edge e, int reader, int act) {
        ThickerBook x = four(0, 0, 0, 0);
        x.act(0, 2, 5);
        e.is("act(" + reader + ", " + act + ", 5)", x.act(reader, act, 5), 0);
        e.is("trace(0)", x.trace(0), NONE);
    }

    // ---- promise 36

    private static void trace(Edges edges) {
        edges.of(36, "`int trace(int i)`: THE TRACE's i-th body. NONE.");
        edges.edge("before any act", e -> e.is("trace(0)", four(0, 0, 0, 0).trace(0), NONE));
        edges.edge("i below 0", e -> {
            ThickerBook x = four(0, 0, 0, 0);
            x.act(0, 2, 5);
            e.is("trace(-1)", x.trace(-1), NONE);
            e.is("trace(the least int)", x.trace(LEAST), NONE);
        });
        edges.edge("the first and the last", e -> {
            ThickerBook x = four(0, 0, 0, 0);
            x.act(0, 2, 5);
            e.is("trace(0)", x.trace(0), 3);
            e.is("trace(2)", x.trace(2), 1);
        });
        edges.edge("i beyond the last", e -> {
            ThickerBook x = four(0, 0, 0, 0);
            x.act(0, 2, 5);
            e.is("trace(3)", x.trace(3), NONE);
            e.is("trace(20)", x.trace(20), NONE);
            e.is("trace(the greatest int)", x.trace(MOST), NONE);
        });
        edges.edge("the latest act alone", e -> {
            ThickerBook x = four(0, 0, 0, 0);
            x.act(0, 2, 5);
            x.act(0, 0, 5);
            e.is("trace(0)", x.trace(0), 1);
            e.is("trace(1)", x.trace(1), NONE);
        });
        edges.of(36, "the numbers of the bodies that ran in the latest act(), as they began; the first 20 are kept");
        edges.edge("seven bodies, the most that can run, are kept", e -> {
            ThickerBook x = four(4, 0, 0, 0);
            x.act(0, 2, 5);
            int[] bodies = {41, 3, 2, 11, 1, 11, 1, NONE};
            for (int i = 0; i < bodies.length; i++) {
                e.is("trace(" + i + ")", x.trace(i), bodies[i]);
            }
        });
    }

    // ---- promise 37

    private static void as(Edges edges) {
        edges.of(37, "A READER taken for a KIND k (0 .. 6), or one under that: its v.");
        edges.edge("the least v", e -> e.is("as(0, 0)", Calls.made(Calls.row(), Calls.row(6, 0)).as(0, 0), 0));
        edges.edge("the greatest v", e -> e.is("as(0, 0)", Calls.made(Calls.row(), Calls.row(6, 9)).as(0, 0), 9));
        edges.edge("its own KIND, the last", e -> e.is("as(3, 6)", four(0, 0, 0, 6).as(3, 6), 9));
        edges.edge("its own KIND, the first", e -> e.is("as(0, 0)", four(0, 0, 0, 6).as(0, 0), 6));
        edges.edge("the KIND one above", e -> {
            e.is("as(0, 1)", four(4, 5, 6, 3).as(0, 1), 6);
            e.is("as(1, 2)", four(4, 5, 6, 3).as(1, 2), 7);
            e.is("as(2, 3)", four(4, 5, 6, 3).as(2, 3), 8);
            e.is("as(3, 0)", four(4, 5, 6, 3).as(3, 0), 9);
        });
        edges.edge("the KIND two above", e -> {
            e.is("as(0, 0)", four(4, 5, 6, 0).as(0, 0), 6);
            e.is("as(1, 0)", four(4, 5, 6, 0).as(1, 0), 7);
            e.is("as(2, 0)", four(4, 5, 6, 0).as(2, 0), 8);
        });
    }

    private static void refusedAs(Edges edges) {
        edges.of(37, "NONE: reader, k; -6: it is of another KIND.");
        edges.edge("one below 0", e -> e.is("as(-1, 0)", four(0, 0, 0, 0).as(-1, 0), NONE));
        edges.edge("one beyond the last", e -> e.is("as(4, 0)", four(0, 0, 0, 0).as(4, 0), NONE));
        edges.edge("k below 0", e -> e.is("as(0, -1)", four(0, 0, 0, 0).as(0, -1), NONE));
        edges.edge("k above 6", e -> e.is("as(0, 7)", four(0, 0, 0, 0).as(0, 7), NONE));
        edges.edge("a KIND under its own", e -> {
            e.is("as(0, 4)", four(1, 0, 0, 0).as(0, 4), OTHER_KIND);
            e.is("as(1, 6)", four(1, 0, 0, 0).as(1, 6), OTHER_KIND);
        });
        edges.edge("a KIND beside its own", e -> {
            e.is("as(0, 2)", four(1, 6, 0, 0).as(0, 2), OTHER_KIND);
            e.is("as(1, 5)", four(1, 6, 0, 0).as(1, 5), OTHER_KIND);
            e.is("as(1, 1)", four(1, 6, 0, 0).as(1, 1), OTHER_KIND);
        });
    }

    // ---- promises 38 and 39

    private static void image(Edges edges) {
        edges.of(38, "THE IMAGE is taken: how many READERS there are.");
        edges.edge("of nobody", e -> {
            ThickerBook x = new ThickerBook();
            e.is("image()", x.image(), 0);
            e.is("undo()", x.undo(), 0);
        });
        edges.edge("of four", e -> e.is("image()", four(0, 0, 0, 0).image(), 4));
        edges.edge("a later one is taken", e -> {
            ThickerBook x = new ThickerBook();
            x.image();
            x.reader(0, 0);
            e.is("image()", x.image(), 1);
            x.reader(0, 0);
            e.is("undo()", x.undo(), 1);
        });
        edges.edge("changes nothing else", e -> {
            ThickerBook x = Calls.made(Calls.row(50, 40), Calls.row(1, 0, 3, 3), 0, 1);
            x.act(0, 0, 5);
            e.unchanged("image()", x, () -> x.image());
        });
    }

    private static void undo(Edges edges) {
        edges.of(39, "All is as THE IMAGE: how many READERS. STATE: there is none.");
        edges.edge("no IMAGE", e -> e.is("undo()", new ThickerBook().undo(), STATE));
        edges.edge("no IMAGE, nothing changes", e -> {
            ThickerBook x = Calls.made(Calls.row(50, 40), Calls.row(1, 0, 3, 3), 0, 1);
            e.unchanged("undo()", x, () -> x.undo());
        });
        edges.edge("nothing was changed", e -> {
            ThickerBook x = Calls.made(Calls.row(50, 40), Calls.row(1, 0, 3, 3), 0, 1);
            x.image();
            String before = Calls.all(x);
            e.is("undo()", x.undo(), 2);
            e.same("undo()", before, Calls.all(x));
        });
        edges.edge("four again", e -> {
            ThickerBook x = four(0, 0, 0, 0);
            x.image();
            e.is("undo()", x.undo(), 4);
        });
    }

    private static void undoWhatIsFull(Edges edges) {
        edges.of(39, "All is as THE IMAGE");
        edges.edge("BOOKS, READERS that were FULL come again", e -> {
            ThickerBook x = new ThickerBook();
            x.image();
            Calls.books(x, 1, 2, 3, 4, 5, 6, 7);
            Calls.readers(x, 0, 0, 0, 0, 0, 0, 0, 0);
            x.undo();
            e.is("book(9)", x.book(9), 0);
            e.is("reader(1, 1)", x.reader(1, 1), 0);
            e.is("of(0, 2)", x.of(0, 2), -5);
        });
        edges.edge("TOWNS that were FULL come again", e -> {
            ThickerBook x = new ThickerBook();
            Calls.town(x, "gap 7");
            x.image();
            for (int i = 0; i < 4; i++) {
                Calls.town(x, "gap 8");
            }
            x.undo();
            e.is("told(1)", x.told(1), 7);
            e.is("count(2)", x.count(2), 1);
            e.is("town()", Calls.town(x, "gap 9"), 1);
        });
        edges.edge("one of READERS that comes again HAS none and a ROW of 0", e -> {
            ThickerBook x = new ThickerBook();
            x.book(4);
            x.image();
            x.reader(6, 9);
            x.row(0, 0, 9);
            x.lend(0, 0);
            x.undo();
            x.reader(6, 9);
            e.is("of(0, 2)", x.of(0, 2), -5);
            e.is("row(0, 0, 1)", x.row(0, 0, 1), 0);
        });
    }

    private static void undoAll(Edges edges) {
        edges.of(39, "THE IMAGE: all that there is (but THE IMAGE and THE TRACE).");
        edges.edge("BOOKS, READERS, DAY, TOWN as they were", e -> {
            ThickerBook x = Calls.made(Calls.row(50, 40), Calls.row(1, 0, 6, 3), 0, 1);
            x.image();
            String before = Calls.all(x);
            x.paste(0, true);
            x.row(1, 0, 9);
            x.pass(7);
            Calls.town(x, "gap 9;love 9 r<9");
            x.lend(0, -1);
            x.book(9);
            x.reader(0, 0);
            x.undo();
            e.same("undo()", before, Calls.all(x));
        });
        edges.edge("THE TAPE as it was", e -> {
            ThickerBook x = new ThickerBook();
            Calls.feed(x, "gap ");
            x.image();
            x.town();
            Calls.feed(x, "love 1 r=1");
            x.undo();
            e.is("count(6)", x.count(6), 4);
            x.feed('7');
            e.is("town()", x.town(), 0);
            e.is("told(1)", x.told(1), 7);
        });
        undoWhatIsTold(edges);
    }

    /** THIN reader 0 takes book 2 at once; reader 1 wants nothing. */
    private static ThickerBook withWhatIsTold() {
        ThickerBook x = Calls.made(Calls.row(50, 60, 30), Calls.row(1, 0, 0, 0), 0, 1);
        x.see(0, 1, true);
        x.plan(0, 0);
        x.note(1, 1);
        x.image();
        return x;
    }

    private static void undoWhatIsTold(Edges edges) {
        edges.edge("SEEN as it was", e -> {
            ThickerBook x = withWhatIsTold();
            x.see(-1, 0, true);
            x.undo();
            e.is("count(3)", x.count(3), 1);
            e.is("had(0)", x.had(0), Calls.bits(0, 2));
            x.see(-1, 0, true);
            x.see(1, 0, false);
            x.see(2, 5, true);
            x.undo();
            e.is("count(3)", x.count(3), 1);
            e.is("had(0)", x.had(0), Calls.bits(0, 2));
        });
        edges.edge("the PLAN as it was", e -> {
            ThickerBook x = withWhatIsTold();
            x.plan(-1, 0);
            x.plan(1, 1);
            x.plan(2, 1);
            x.undo();
            e.is("count(4)", x.count(4), 1);
            e.is("done(1)", x.done(1), 1);
            x.plan(-1, 0);
            x.undo();
            e.is("count(4)", x.count(4), 1);
            e.is("done(1)", x.done(1), 1);
        });
        edges.edge("NOTES as they were", e -> {
            ThickerBook x = withWhatIsTold();
            x.note(-1, 0);
            x.note(0, 2);
            x.note(1, 0);
            x.undo();
            e.is("count(5)", x.count(5), 1);
            e.is("looked()", x.looked(), -5);
            x.note(-1, 0);
            x.undo();
            e.is("count(5)", x.count(5), 1);
            e.is("looked()", x.looked(), -5);
        });
    }

    private static void notInTheImage(Edges edges) {
        edges.of(39, "THE IMAGE: all that there is (but THE IMAGE and THE TRACE).");
        edges.edge("THE IMAGE stays", e -> {
            ThickerBook x = new ThickerBook();
            x.image();
            for (int i = 0; i < 3; i++) {
                x.reader(0, 0);
                e.is("undo()", x.undo(), 0);
            }
        });
        edges.edge("THE IMAGE stays as it was", e -> {
            ThickerBook x = Calls.made(Calls.row(50, 40), Calls.row(1, 0), 0);
            x.image();
            x.undo();
            x.lend(0, 1);
            x.undo();
            e.is("of(0, 2)", x.of(0, 2), 0);
        });
        edges.edge("THE TRACE stays", e -> {
            ThickerBook x = four(0, 0, 0, 0);
            x.act(0, 0, 5);
            x.image();
            x.act(0, 2, 5);
            x.undo();
            e.is("trace(0)", x.trace(0), 3);
            e.is("count(7)", x.count(7), 3);
        });
    }

    // ---- promise 40

    private static void count(Edges edges) {
        edges.of(40, "7 bodies that ran in the latest act() (all, kept or not). NONE.");
        edges.edge("what below 0", e -> {
            e.is("count(-1)", new ThickerBook().count(-1), NONE);
            e.is("count(the least int)", new ThickerBook().count(LEAST), NONE);
        });
        edges.edge("what above 7", e -> {
            e.is("count(8)", new ThickerBook().count(8), NONE);
            e.is("count(the greatest int)", new ThickerBook().count(MOST), NONE);
        });
        edges.edge("as many as differ", e -> {
            ThickerBook x = Calls.made(Calls.row(1, 2, 3, 4, 5), Calls.row(0, 0, 0, 0, 0, 0, 0, 0));
            Calls.town(x, "gap 1");
            x.see(0, 0, true);
            x.see(0, 0, true);
            x.plan(3, 0);
            x.plan(3, 0);
            x.plan(3, 0);
            for (int i = 0; i < 6; i++) {
                x.note(0, 0);
            }
            Calls.feed(x, "gap gap");
            x.act(0, 0, 0);
            int[] counts = {4, 5, 1, 2, 3, 6, 7, 1};
            for (int what = 0; what < counts.length; what++) {
                e.is("count(" + what + ")", x.count(what), counts[what]);
            }
        });
        edges.edge("no act", e -> e.is("count(7)", four(0, 0, 0, 0).count(7), 0));
        edges.edge("seven bodies", e -> {
            ThickerBook x = four(4, 0, 0, 0);
            x.act(0, 2, 5);
            e.is("count(7)", x.count(7), 7);
        });
        edges.edge("the latest act alone", e -> {
            ThickerBook x = four(4, 0, 0, 0);
            x.act(0, 2, 5);
            x.act(1, 0, 5);
            e.is("count(7)", x.count(7), 1);
        });
    }

    private static void countAtMost(Edges edges) {
        edges.of(40, "0 READERS, 1 BOOKS, 2 TOWNS, 3 of SEEN, 4 of the PLAN, 5 of NOTES, 6 signs of THE TAPE");
        edges.edge("as many as there can be, FULL", e -> {
            ThickerBook x = new ThickerBook();
            for (int i = 0; i < 9; i++) {
                x.book(50);
                x.reader(0, 0);
                Calls.town(x, "gap 1");
                x.see(0, 0, true);
                x.plan(3, 0);
                x.note(0, 0);
            }
            for (int i = 0; i < 101; i++) {
                x.feed('g');
            }
            int[] counts = {4, 7, 5, 6, 8, 8, 100};
            for (int what = 0; what < counts.length; what++) {
                e.is("count(" + what + ")", x.count(what), counts[what]);
            }
        });
    }
}
