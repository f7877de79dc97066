/** Promises 31 to 34: plans, notes. */
final class PlanEdges {
    private static final int NONE = -1, FULL = -4, NO_NUMBER = -10001;

    private PlanEdges() {
    }

    static void add(Edges edges) {
        plan(edges);
        refusedPlans(edges);
        done(edges);
        doneByPaste(edges);
        doneByDays(edges);
        refusedDone(edges);
        note(edges);
        refusedNotes(edges);
        looked(edges);
    }

    /** One READER that HAS BOOK 0. */
    private static ThickerBook one(int... thick) {
        return Calls.made(thick, Calls.row(0, 0), 0);
    }

    /** With so many rows of the PLAN by which DAYS go. */
    private static ThickerBook planned(int n) {
        ThickerBook x = one(50, 40);
        for (int i = 0; i < n; i++) {
            x.plan(3, 0);
        }
        return x;
    }

    /** With so many NOTES, all so. */
    private static ThickerBook noted(int n) {
        ThickerBook x = one(50, 40);
        for (int i = 0; i < n; i++) {
            x.note(0, 0);
        }
        return x;
    }

    // ---- promise 31

    private static void plan(Edges edges) {
        edges.of(31, "A row comes to the PLAN: how many there are (what -1: none then, 0, whatever the other is).");
        edges.edge("the first row", e -> e.is("plan(0, 0)", planned(0).plan(0, 0), 1));
        edges.edge("none then", e -> {
            ThickerBook x = planned(3);
            e.is("plan(-1, 0)", x.plan(-1, 0), 0);
            e.is("count(4)", x.count(4), 0);
            e.is("plan(0, 0)", x.plan(0, 0), 1);
        });
        edges.edge("none then, of none", e -> e.is("plan(-1, 0)", new ThickerBook().plan(-1, 0), 0));
        edges.edge("none then, whatever the other is", e -> {
            ThickerBook x = planned(3);
            e.is("plan(-1, 9)", x.plan(-1, 9), 0);
            e.is("plan(-1, -9)", x.plan(-1, -9), 0);
            e.is("count(4)", x.count(4), 0);
        });
        edges.edge("none then, of eight", e -> {
            ThickerBook x = planned(8);
            e.is("plan(-1, 0)", x.plan(-1, 0), 0);
            e.is("count(4)", x.count(4), 0);
        });
        edges.of(31, "3 a DAY goes (one not looked at); 8 at most");
        edges.edge("a DAY by no such one", e -> {
            e.is("plan(3, 9)", planned(0).plan(3, 9), 1);
            e.is("plan(3, -9)", planned(0).plan(3, -9), 1);
            e.is("plan(3, 0) by nobody", new ThickerBook().plan(3, 0), 1);
        });
        edges.edge("the eighth row", e -> e.is("plan(0, 0)", planned(7).plan(0, 0), 8));
        edges.edge("a ninth row", e -> e.is("plan(0, 0)", planned(8).plan(0, 0), FULL));
    }

    private static void refusedPlans(Edges edges) {
        edges.of(31, "NONE: what, reader (but by 3); FULL: 8.");
        edges.edge("what below -1", e -> {
            e.is("plan(-2, 0)", planned(0).plan(-2, 0), NONE);
            e.is("plan(the least int, 0)", planned(0).plan(Integer.MIN_VALUE, 0), NONE);
        });
        edges.edge("what above 3", e -> {
            e.is("plan(4, 0)", planned(0).plan(4, 0), NONE);
            e.is("plan(the greatest int, 0)", planned(0).plan(Integer.MAX_VALUE, 0), NONE);
        });
        edges.edge("one below 0", e -> {
            for (int what = 0; what < 3; what++) {
                e.is("plan(" + what + ", -1)", planned(0).plan(what, -1), NONE);
            }
        });
        edges.edge("one beyond the last", e -> {
            for (int what = 0; what < 3; what++) {
                e.is("plan(" + what + ", 1)", planned(0).plan(what, 1), NONE);
            }
        });
        edges.edge("NONE of what ahead of FULL", e -> e.is("plan(4, 0)", planned(8).plan(4, 0), NONE));
        edges.edge("NONE of one ahead of FULL", e -> e.is("plan(0, 1)", planned(8).plan(0, 1), NONE));
        edges.of(31, "They change nothing.");
        edges.edge("refused, it changes nothing", e -> {
            ThickerBook x = planned(2);
            e.unchanged("plan(4, 0), plan(0, 1)", x, () -> {
                x.plan(4, 0);
                x.plan(0, 1);
            });
        });
        edges.edge("FULL, it changes nothing", e -> {
            ThickerBook x = Calls.made(Calls.row(50), Calls.row(1, 0), 0);
            for (int i = 0; i < 8; i++) {
                x.plan(3, 0);
            }
            e.unchanged("plan(1, 0)", x, () -> x.plan(1, 0));
        });
    }

    // ---- promise 32

    private static void done(Edges edges) {
        edges.of(32, "PLAN told by hand: rows of what 0 one COMES, 1 GLUES, 2 TEARS (who HAS none does nothing), 3 a DAY goes "
            + "(one not looked at); 8 at most. DONE: TOTAL; what is ON THE SHELF (bits).");
        edges.edge("no row", e -> {
            ThickerBook x = Calls.made(Calls.row(50, 40), Calls.row(1, 0), 0);
            e.is("done(0)", x.done(0), -10);
            e.is("done(1)", x.done(1), 2);
        });
        edges.edge("nobody and no BOOKS", e -> {
            e.is("done(0)", new ThickerBook().done(0), 0);
            e.is("done(1)", new ThickerBook().done(1), 0);
        });
        edges.edge("the first row is done", e -> {
            ThickerBook x = Calls.made(Calls.row(50, 40), Calls.row(1, 0), 0);
            x.plan(0, 0);
            e.is("done(1)", x.done(1), 1);
        });
        edges.edge("a row of the last of READERS is done", e -> {
            ThickerBook x = Calls.made(Calls.row(90, 80, 70, 50, 40), Calls.row(1, 0, 0, 0, 0, 0, 1, 0), 0, 1, 2, 3);
            x.plan(0, 3);
            e.is("done(1)", x.done(1), 8);
        });
        edges.edge("the eighth row is done", e -> {
            ThickerBook x = one(50, 40);
            Calls.town(x, "love 1 b=1");
            for (int i = 0; i < 7; i++) {
                x.plan(1, 0);
            }
            x.plan(0, 0);
            e.is("done(1)", x.done(1), 1);
        });
        edges.of(32, "and changes nothing");
        edges.edge("changes nothing", e -> {
            ThickerBook x = Calls.made(Calls.row(50, 40), Calls.row(1, 0), 0);
            x.plan(0, 0);
            x.plan(1, 0);
            x.plan(3, 0);
            e.unchanged("done(0)", x, () -> x.done(0));
        });
    }

    /** TOTAL by a PLAN of one row for one of that KIND that HAS a BOOK of that THICK. */
    private static int totalBy(int what, int kind, int thick) {
        ThickerBook x = Calls.made(Calls.row(thick), Calls.row(kind, 0), 0);
        if (kind == 6) x.row(0, 1, 7);
        x.plan(what, 0);
        return x.done(0);
    }

    private static void doneByPaste(Edges edges) {
        edges.of(32, "One GLUES: what it HAS is PASTE THICKER (99 at most)");
        edges.edge("glued to no more than 99", e -> {
            e.is("done(0), THICK 97", totalBy(1, 1, 97), -19);
            e.is("done(0), THICK 99", totalBy(1, 1, 99), -19);
            e.is("done(0), THICK 90", totalBy(1, 1, 90), -19);
        });
        edges.of(32, "it TEARS: that is PASTE less THICK (1 at least)");
        edges.edge("torn to no less than 1", e -> {
            e.is("done(0), THICK 3", totalBy(2, 6, 3), 7);
            e.is("done(0), THICK 1", totalBy(2, 6, 1), 7);
            e.is("done(0), THICK 6", totalBy(2, 6, 6), 7);
        });
        edges.of(32, "1 GLUES, 2 TEARS (who HAS none does nothing)");
        edges.edge("who HAS none GLUES", e -> doesNothing(e, 1));
        edges.edge("who HAS none TEARS", e -> doesNothing(e, 2));
        edges.edge("who HAS none COMES", e -> doesNothing(e, 0));
    }

    private static void doesNothing(Edge e, int what) {
        ThickerBook x = Calls.made(Calls.row(49, 10), Calls.row(0, 0, 1, 0), -1, 0);
        x.plan(what, 0);
        e.is("done(0)", x.done(0), -9);
        e.is("done(1)", x.done(1), 2);
    }

    private static void doneByDays(Edges edges) {
        edges.of(32, "(DAYS beyond 9999, too), and changes nothing");
        edges.edge("DAYS beyond 9999", e -> {
            ThickerBook x = DayEdges.onTheLastDay();
            Calls.books(x, 50, 40);
            Calls.readers(x, 0, 0);
            x.lend(0, 0);
            Calls.town(x, "love 1 b=1&d=2;love 5 d=3");
            for (int i = 0; i < 3; i++) {
                x.plan(3, 0);
            }
            e.is("done(1) behind 3 DAYS", x.done(1), 2);
            x.plan(3, 0);
            e.is("done(1) behind 4 DAYS", x.done(1), 1);
            e.is("done(0) behind 4 DAYS", x.done(0), 5);
        });
        edges.of(32, "3 a DAY goes (one not looked at)");
        edges.edge("a DAY by no such one is done", e -> {
            ThickerBook x = Calls.made(Calls.row(50, 40), Calls.row(1, 0), 0);
            x.plan(3, 9);
            e.is("done(1)", x.done(1), 1);
        });
    }

    private static void refusedDone(Edges edges) {
        edges.of(32, "DONE: what 0 TOTAL, 1 what is ON THE SHELF. -10001: NONE.");
        edges.edge("what below 0", e -> {
            e.is("done(-1)", one(50).done(-1), NO_NUMBER);
            e.is("done(the least int)", one(50).done(Integer.MIN_VALUE), NO_NUMBER);
        });
        edges.edge("what above 1", e -> {
            e.is("done(2)", one(50).done(2), NO_NUMBER);
            e.is("done(the greatest int)", one(50).done(Integer.MAX_VALUE), NO_NUMBER);
        });
    }

    // ---- promise 33

    private static void note(Edges edges) {
        edges.of(33, "A row comes to NOTES: how many there are (reader -1: none then, 0, whatever the other is).");
        edges.edge("the first row", e -> e.is("note(0, 0)", noted(0).note(0, 0), 1));
        edges.edge("none then", e -> {
            ThickerBook x = noted(3);
            e.is("note(-1, 0)", x.note(-1, 0), 0);
            e.is("count(5)", x.count(5), 0);
            e.is("note(0, 0)", x.note(0, 0), 1);
        });
        edges.edge("none then, of none", e -> e.is("note(-1, 0)", new ThickerBook().note(-1, 0), 0));
        edges.edge("none then, whatever the other is", e -> {
            ThickerBook x = noted(3);
            e.is("note(-1, 9)", x.note(-1, 9), 0);
            e.is("note(-1, -9)", x.note(-1, -9), 0);
            e.is("count(5)", x.count(5), 0);
        });
        edges.edge("none then, of eight", e -> {
            ThickerBook x = noted(8);
            e.is("note(-1, 0)", x.note(-1, 0), 0);
            e.is("count(5)", x.count(5), 0);
        });
        edges.of(33, "NOTES told by hand: READERS and BOOKS; 8 at most.");
        edges.edge("the last of READERS, the last BOOK", e -> {
            ThickerBook x = Calls.made(Calls.row(1, 2, 3, 4, 5, 6, 7), Calls.row(0, 0, 0, 0, 0, 0, 0, 0));
            e.is("note(3, 6)", x.note(3, 6), 1);
        });
        edges.edge("the eighth row", e -> e.is("note(0, 0)", noted(7).note(0, 0), 8));
        edges.edge("a ninth row", e -> e.is("note(0, 0)", noted(8).note(0, 0), FULL));
    }

    private static void refusedNotes(Edges edges) {
        edges.of(33, "NONE; FULL: 8.");
        edges.edge("one below -1", e -> e.is("note(-2, 0)", noted(0).note(-2, 0), NONE));
        edges.edge("one beyond the last", e -> e.is("note(1, 0)", noted(0).note(1, 0), NONE));
        edges.edge("a BOOK below 0", e -> {
            e.is("note(0, -1)", noted(0).note(0, -1), NONE);
            e.is("note(0, -5)", noted(0).note(0, -5), NONE);
        });
        edges.edge("a BOOK beyond the last", e -> e.is("note(0, 2)", noted(0).note(0, 2), NONE));
        edges.edge("NONE of one ahead of FULL", e -> e.is("note(1, 0)", noted(8).note(1, 0), NONE));
        edges.edge("NONE of a BOOK ahead of FULL", e -> e.is("note(0, 2)", noted(8).note(0, 2), NONE));
        edges.of(33, "They change nothing.");
        edges.edge("refused, it changes nothing", e -> {
            ThickerBook x = noted(2);
            e.unchanged("note(1, 0), note(0, 2)", x, () -> {
                x.note(1, 0);
                x.note(0, 2);
            });
        });
        edges.edge("FULL, it changes nothing", e -> {
            ThickerBook x = noted(8);
            e.unchanged("note(0, 1)", x, () -> x.note(0, 1));
        });
    }

    // ---- promise 34

    private static void looked(Edges edges) {
        edges.of(34, "LOOKED at: the first by which that one does not HAVE that (-5: none).");
        edges.edge("no NOTES", e -> e.is("looked()", noted(0).looked(), -5));
        edges.edge("no NOTES, nobody", e -> e.is("looked()", new ThickerBook().looked(), -5));
        edges.edge("no NOTES, one HAS none", e -> {
            ThickerBook x = noted(0);
            x.lend(0, -1);
            e.is("looked()", x.looked(), -5);
        });
        edges.edge("all so", e -> e.is("looked()", noted(8).looked(), -5));
        edges.edge("the first", e -> {
            ThickerBook x = one(50, 40);
            x.note(0, 1);
            e.is("looked()", x.looked(), 0);
        });
        edges.edge("the eighth", e -> {
            ThickerBook x = noted(7);
            x.note(0, 1);
            e.is("looked()", x.looked(), 7);
        });
        edges.edge("the first of several", e -> {
            ThickerBook x = noted(1);
            x.note(0, 1);
            x.note(0, 0);
            x.note(0, 1);
            e.is("looked()", x.looked(), 1);
        });
        edges.edge("who HAS none", e -> {
            ThickerBook x = noted(1);
            x.lend(0, -1);
            e.is("looked()", x.looked(), 0);
        });
        edges.edge("what another HAS", e -> {
            ThickerBook x = Calls.made(Calls.row(50, 40), Calls.row(0, 0, 0, 0), 0, 1);
            x.note(1, 0);
            e.is("looked()", x.looked(), 0);
        });
    }
}
