/** Promises 8 to 14: at, row, lend, told, come, paste, pass. */
final class HavingEdges {
    private static final int NONE = -1, BAD = -2, STATE = -3;

    private HavingEdges() {
    }

    static void add(Edges edges) {
        at(edges);
        row(edges);
        refusedRows(edges);
        rowsUnchanged(edges);
        lend(edges);
        refusedLoans(edges);
        told(edges);
        come(edges);
        glue(edges);
        tear(edges);
        refusedPaste(edges);
        days(edges);
        daysByNumbers(edges);
        refusedDays(edges);
    }

    /** One READER that HAS BOOK 0. */
    private static ThickerBook one(int... thick) {
        return Calls.made(thick, Calls.row(0, 0), 0);
    }

    // ---- promise 8

    private static void at(Edges edges) {
        edges.of(8, "THICK of a BOOK (what 0), who HAS it (1; -5: it is ON THE SHELF). NONE.");
        edges.edge("ON THE SHELF", e -> e.is("at(1, 1)", one(50, 40).at(1, 1), -5));
        edges.edge("had by the first", e -> e.is("at(0, 1)", one(50, 40).at(0, 1), 0));
        edges.edge("had by the last", e -> {
            ThickerBook x = Calls.made(Calls.row(50, 40), Calls.row(0, 0, 0, 0, 0, 0, 0, 0), -1, -1, -1, 1);
            e.is("at(1, 1)", x.at(1, 1), 3);
        });
        edges.edge("a BOOK below 0", e -> {
            e.is("at(-1, 0)", one(50).at(-1, 0), NONE);
            e.is("at(-5, 1)", one(50).at(-5, 1), NONE);
            e.is("at(the least int, 0)", one(50).at(Integer.MIN_VALUE, 0), NONE);
        });
        edges.edge("a BOOK beyond the last", e -> {
            e.is("at(1, 0)", one(50).at(1, 0), NONE);
            e.is("at(the greatest int, 0)", one(50).at(Integer.MAX_VALUE, 0), NONE);
        });
        edges.edge("no BOOKS", e -> e.is("at(0, 1)", new ThickerBook().at(0, 1), NONE));
        edges.edge("an eighth BOOK", e -> e.is("at(7, 0)", one(1, 2, 3, 4, 5, 6, 7).at(7, 0), NONE));
        edges.edge("what below 0", e -> {
            e.is("at(0, -1)", one(50).at(0, -1), NONE);
            e.is("at(0, the least int)", one(50).at(0, Integer.MIN_VALUE), NONE);
        });
        edges.edge("what above 1", e -> {
            e.is("at(0, 2)", one(50).at(0, 2), NONE);
            e.is("at(0, the greatest int)", one(50).at(0, Integer.MAX_VALUE), NONE);
        });
    }

    // ---- promise 9

    /** A TOLD one, a STILL one and BOOKS for each place of the ROW. */
    private static ThickerBook withRow() {
        return Calls.made(Calls.row(4, 5, 6, 7), Calls.row(6, 0, 3, 0));
    }

    private static void row(Edges edges) {
        edges.of(9, "TOLD ones a ROW of four numbers (0 .. 9; 0 at first)");
        edges.edge("0 at first", e -> {
            for (int k = 0; k < 4; k++) {
                e.is("row(0, " + k + ", 5)", withRow().row(0, k, 5), 0);
                e.is("likes(0, " + k + ")", withRow().likes(0, k), 0);
            }
        });
        edges.of(9, "The ROW of a TOLD one becomes n (0 .. 9) for THICK modulo 4 being k: what it was.");
        edges.edge("the greatest n", e -> becomes(e, 2, 9));
        edges.edge("the least n", e -> {
            ThickerBook x = withRow();
            x.row(0, 2, 5);
            e.is("row(0, 2, 0)", x.row(0, 2, 0), 5);
            e.is("likes(0, 2)", x.likes(0, 2), 0);
        });
        edges.edge("the first k", e -> becomes(e, 0, 7));
        edges.edge("the last k", e -> becomes(e, 3, 7));
        edges.edge("the last of READERS", e -> {
            ThickerBook x = Calls.made(Calls.row(4, 5, 6, 7), Calls.row(6, 0, 6, 0, 6, 0, 6, 0));
            e.is("row(3, 3, 8)", x.row(3, 3, 8), 0);
            e.is("likes(3, 3)", x.likes(3, 3), 8);
            e.is("likes(2, 3)", x.likes(2, 3), 0);
            e.is("row(3, 3, 0)", x.row(3, 3, 0), 8);
        });
    }

    private static void becomes(Edge e, int k, int n) {
        ThickerBook x = withRow();
        e.is("row(0, " + k + ", " + n + ")", x.row(0, k, n), 0);
        for (int b = 0; b < 4; b++) {
            e.is("likes(0, " + b + ")", x.likes(0, b), b == k ? n : 0);
        }
        e.is("row(0, " + k + ", 1)", x.row(0, k, 1), n);
    }

    private static void refusedRows(Edges edges) {
        edges.of(9, "NONE: reader, k; BAD; STATE: another KIND.");
        edges.edge("one below 0", e -> e.is("row(-1, 0, 0)", withRow().row(-1, 0, 0), NONE));
        edges.edge("one beyond the last", e -> e.is("row(2, 0, 0)", withRow().row(2, 0, 0), NONE));
        edges.edge("k below 0", e -> e.is("row(0, -1, 0)", withRow().row(0, -1, 0), NONE));
        edges.edge("k above 3", e -> e.is("row(0, 4, 0)", withRow().row(0, 4, 0), NONE));
        edges.edge("n below 0", e -> e.is("row(0, 0, -1)", withRow().row(0, 0, -1), BAD));
        edges.edge("n above 9", e -> e.is("row(0, 0, 10)", withRow().row(0, 0, 10), BAD));
        edges.edge("each other KIND", e -> {
            for (int kind = 0; kind < 6; kind++) {
                ThickerBook x = Calls.made(Calls.row(4), Calls.row(kind, 0));
                e.is("row(0, 0, 1) of KIND " + kind, x.row(0, 0, 1), STATE);
            }
        });
        edges.edge("the KIND above TOLD", e -> e.is("row(1, 0, 1)", withRow().row(1, 0, 1), STATE));
        edges.edge("NONE of k ahead of BAD", e -> e.is("row(0, 4, 10)", withRow().row(0, 4, 10), NONE));
        edges.edge("NONE of k ahead of STATE", e -> e.is("row(1, -1, 1)", withRow().row(1, -1, 1), NONE));
        edges.edge("NONE of one ahead of BAD", e -> e.is("row(2, 0, 10)", withRow().row(2, 0, 10), NONE));
        edges.edge("BAD ahead of STATE", e -> e.is("row(1, 0, 10)", withRow().row(1, 0, 10), BAD));
    }

    private static void rowsUnchanged(Edges edges) {
        edges.of(9, "They change nothing.");
        edges.edge("a BAD n changes nothing", e -> {
            ThickerBook x = withRow();
            x.row(0, 1, 6);
            x.row(0, 1, 10);
            x.row(0, 1, -1);
            e.is("row(0, 1, 6)", x.row(0, 1, 6), 6);
        });
        edges.edge("by no such k nothing changes", e -> {
            ThickerBook x = Calls.made(Calls.row(4, 5, 6, 7), Calls.row(6, 0, 6, 0));
            e.unchanged("row(0, 4, 9), row(1, -1, 9)", x, () -> {
                x.row(0, 4, 9);
                x.row(1, -1, 9);
            });
        });
    }

    // ---- promise 10

    private static void lend(Edges edges) {
        edges.of(10, "One HAS a BOOK from now on (book -1: none); what it HAD is ON THE SHELF: that (-5).");
        edges.edge("HAD none", e -> {
            ThickerBook x = Calls.made(Calls.row(50), Calls.row(0, 0));
            e.is("lend(0, 0)", x.lend(0, 0), -5);
            e.is("of(0, 2)", x.of(0, 2), 0);
        });
        edges.edge("what it HAD", e -> {
            ThickerBook x = one(50, 40);
            e.is("lend(0, 1)", x.lend(0, 1), 0);
            e.is("told(4)", x.told(4), 1);
        });
        edges.edge("none", e -> {
            ThickerBook x = one(50, 40);
            e.is("lend(0, -1)", x.lend(0, -1), 0);
            e.is("of(0, 2)", x.of(0, 2), -5);
            e.is("told(4)", x.told(4), 3);
        });
        edges.edge("none for none", e -> {
            ThickerBook x = Calls.made(Calls.row(50), Calls.row(0, 0));
            e.is("lend(0, -1)", x.lend(0, -1), -5);
            e.is("of(0, 2)", x.of(0, 2), -5);
        });
        edges.edge("its own", e -> {
            ThickerBook x = one(50, 40);
            e.is("lend(0, 0)", x.lend(0, 0), 0);
            e.is("at(0, 1)", x.at(0, 1), 0);
        });
        edges.edge("a THICKER one, too", e -> e.is("lend(0, 1)", one(50, 99).lend(0, 1), 0));
        edges.edge("the last BOOK for the last of READERS", e -> {
            ThickerBook x = Calls.made(Calls.row(1, 2, 3, 4, 5, 6, 7), Calls.row(0, 0, 0, 0, 0, 0, 0, 0));
            e.is("lend(3, 6)", x.lend(3, 6), -5);
            e.is("at(6, 1)", x.at(6, 1), 3);
        });
    }

    private static void refusedLoans(Edges edges) {
        edges.of(10, "NONE; STATE: another one HAS that.");
        edges.edge("one below 0", e -> e.is("lend(-1, 1)", one(50, 40).lend(-1, 1), NONE));
        edges.edge("one beyond the last", e -> e.is("lend(1, 1)", one(50, 40).lend(1, 1), NONE));
        edges.edge("one beyond the last, none", e -> e.is("lend(1, -1)", one(50, 40).lend(1, -1), NONE));
        edges.edge("a BOOK below -1", e -> {
            e.is("lend(0, -2)", one(50, 40).lend(0, -2), NONE);
            e.is("lend(0, -5)", one(50, 40).lend(0, -5), NONE);
        });
        edges.edge("a BOOK beyond the last", e -> e.is("lend(0, 2)", one(50, 40).lend(0, 2), NONE));
        edges.edge("another one HAS that", e -> {
            ThickerBook x = Calls.made(Calls.row(50, 40), Calls.row(0, 0, 0, 0), 0, 1);
            e.is("lend(0, 1)", x.lend(0, 1), STATE);
            e.is("lend(1, 0)", x.lend(1, 0), STATE);
        });
        edges.edge("another one HAS that, for who HAS none", e -> {
            ThickerBook x = Calls.made(Calls.row(50, 40), Calls.row(0, 0, 0, 0), 0);
            e.is("lend(1, 0)", x.lend(1, 0), STATE);
        });
        edges.of(10, "They change nothing.");
        edges.edge("by STATE nothing changes", e -> {
            ThickerBook x = Calls.made(Calls.row(50, 40), Calls.row(0, 0, 0, 0), 0, 1);
            e.unchanged("lend(0, 1)", x, () -> x.lend(0, 1));
        });
        edges.edge("by no such BOOK nothing changes", e -> {
            ThickerBook x = one(50, 40);
            e.unchanged("lend(0, 2), lend(0, -2)", x, () -> {
                x.lend(0, 2);
                x.lend(0, -2);
            });
        });
    }

    // ---- promise 11

    private static void told(Edges edges) {
        edges.of(11, "What 0 DAY, 1 GAP, 2 PASTE, 3 TOTAL, 4 what is ON THE SHELF (bits). NONE.");
        edges.edge("what below 0", e -> {
            e.is("told(-1)", one(50).told(-1), NONE);
            e.is("told(the least int)", one(50).told(Integer.MIN_VALUE), NONE);
        });
        edges.edge("what above 4", e -> {
            e.is("told(5)", one(50).told(5), NONE);
            e.is("told(the greatest int)", one(50).told(Integer.MAX_VALUE), NONE);
        });
        edges.edge("nothing ON THE SHELF", e -> e.is("told(4)", one(50).told(4), 0));
        edges.edge("all ON THE SHELF", e -> {
            ThickerBook x = Calls.made(Calls.row(1, 2, 3, 4, 5, 6, 7), Calls.row());
            e.is("told(4)", x.told(4), 127);
        });
        edges.of(11, "TOTAL: LIKING of all for what they HAVE, together (who HAS none: 0).");
        edges.edge("TOTAL of nobody", e -> e.is("told(3)", new ThickerBook().told(3), 0));
        edges.edge("TOTAL of who HAS none", e -> {
            ThickerBook x = Calls.made(Calls.row(50), Calls.row(4, 9, 3, 9));
            Calls.town(x, "love 9 r<9");
            e.is("told(3)", x.told(3), 0);
        });
        edges.edge("TOTAL below 0", e -> {
            ThickerBook x = Calls.made(Calls.row(99, 99), Calls.row(1, 0, 1, 0), 0, 1);
            e.is("told(3)", x.told(3), -38);
        });
        edges.edge("TOTAL of all four", e -> {
            ThickerBook x = Calls.made(Calls.row(9, 9, 9, 9), Calls.row(0, 0, 0, 0, 0, 0, 3, 9), 0, 1, 2, 3);
            e.is("told(3)", x.told(3), 9);
        });
    }

    // ---- promise 12

    private static void come(Edges edges) {
        edges.of(12, "One COMES: what it HAS then (-5). NONE.");
        edges.edge("HAS none", e -> {
            ThickerBook x = Calls.made(Calls.row(50), Calls.row(1, 0));
            e.is("come(0)", x.come(0), -5);
            e.is("told(4)", x.told(4), 1);
        });
        edges.edge("one below 0", e -> e.is("come(-1)", one(50).come(-1), NONE));
        edges.edge("one beyond the last", e -> e.is("come(1)", one(50).come(1), NONE));
        edges.edge("nobody", e -> e.is("come(0)", new ThickerBook().come(0), NONE));
        edges.of(12, "if it has a CHOICE, it leaves what it HAS ON THE SHELF, and HAS that");
        edges.edge("has no CHOICE", e -> {
            ThickerBook x = one(50, 40);
            e.is("come(0)", x.come(0), 0);
            e.is("told(4)", x.told(4), 2);
        });
        edges.edge("has a CHOICE", e -> {
            ThickerBook x = Calls.made(Calls.row(50, 40), Calls.row(1, 0), 0);
            e.is("come(0)", x.come(0), 1);
            e.is("told(4)", x.told(4), 1);
        });
        edges.edge("DAY stays", e -> {
            ThickerBook x = Calls.made(Calls.row(50, 40), Calls.row(1, 0), 0);
            x.come(0);
            e.is("told(0)", x.told(0), 0);
        });
    }

    // ---- promise 13

    private static void glue(Edges edges) {
        edges.of(13, "One GLUES: what it HAS is PASTE THICKER (99 at most)");
        edges.edge("to 98", e -> e.is("paste(0, true)", one(93).paste(0, true), 98));
        edges.edge("to 99", e -> e.is("paste(0, true)", one(94).paste(0, true), 99));
        edges.edge("to no more than 99", e -> {
            ThickerBook x = one(95);
            e.is("paste(0, true)", x.paste(0, true), 99);
            e.is("at(0, 0)", x.at(0, 0), 99);
        });
        edges.edge("99 stays", e -> e.is("paste(0, true)", one(99).paste(0, true), 99));
        edges.edge("by the greatest PASTE", e -> {
            ThickerBook x = one(1);
            Calls.town(x, "paste 99");
            e.is("paste(0, true)", x.paste(0, true), 99);
        });
        edges.edge("by the least PASTE", e -> {
            ThickerBook x = one(50);
            Calls.town(x, "paste 0");
            e.is("paste(0, true)", x.paste(0, true), 51);
        });
    }

    private static void tear(Edges edges) {
        edges.of(13, "it TEARS: that is PASTE less THICK (1 at least)");
        edges.edge("to 2", e -> e.is("paste(0, false)", one(7).paste(0, false), 2));
        edges.edge("to 1", e -> e.is("paste(0, false)", one(6).paste(0, false), 1));
        edges.edge("to no less than 1", e -> {
            ThickerBook x = one(5);
            e.is("paste(0, false)", x.paste(0, false), 1);
            e.is("at(0, 0)", x.at(0, 0), 1);
        });
        edges.edge("1 stays", e -> e.is("paste(0, false)", one(1).paste(0, false), 1));
        edges.edge("torn by the greatest PASTE", e -> {
            ThickerBook x = one(99);
            Calls.town(x, "paste 99");
            e.is("paste(0, false)", x.paste(0, false), 1);
        });
        edges.edge("torn by the least PASTE", e -> {
            ThickerBook x = one(50);
            Calls.town(x, "paste 0");
            e.is("paste(0, false)", x.paste(0, false), 49);
        });
    }

    private static void refusedPaste(Edges edges) {
        edges.of(13, "NONE; STATE: it HAS none.");
        edges.edge("one below 0", e -> e.is("paste(-1, true)", one(50).paste(-1, true), NONE));
        edges.edge("one beyond the last", e -> e.is("paste(1, false)", one(50).paste(1, false), NONE));
        edges.edge("it HAS none", e -> {
            ThickerBook x = Calls.made(Calls.row(50), Calls.row(0, 0));
            e.is("paste(0, true)", x.paste(0, true), STATE);
            e.is("paste(0, false)", x.paste(0, false), STATE);
        });
        edges.of(13, "They change nothing.");
        edges.edge("by STATE nothing changes", e -> {
            ThickerBook x = Calls.made(Calls.row(50, 40), Calls.row(0, 0, 0, 0), -1, 1);
            e.unchanged("paste(0, ..)", x, () -> {
                x.paste(0, true);
                x.paste(0, false);
            });
        });
    }

    // ---- promise 14

    private static void days(Edges edges) {
        edges.of(14, "n DAYS (0 .. 40) go: DAY.");
        edges.edge("0 DAYS", e -> {
            ThickerBook x = Calls.made(Calls.row(50, 40), Calls.row(1, 0), 0);
            e.is("pass(0)", x.pass(0), 0);
            e.is("of(0, 2)", x.of(0, 2), 0);
        });
        edges.edge("1 DAY", e -> {
            ThickerBook x = Calls.made(Calls.row(50, 40), Calls.row(1, 0), 0);
            e.is("pass(1)", x.pass(1), 1);
            e.is("of(0, 2)", x.of(0, 2), 1);
        });
        edges.edge("40 DAYS", e -> e.is("pass(40)", new ThickerBook().pass(40), 40));
        edges.edge("the last of 40 DAYS goes like the others", e -> {
            ThickerBook x = Calls.made(Calls.row(50, 40, 30, 20, 10), Calls.row(0, 0, 0, 0, 0, 0, 0, 0), 0, 1, 2, 3);
            Calls.town(x, "love 1 d=9&(r=0&b=1|r=1&b=2|r=2&b=3|r=3&b=4)");
            x.pass(40);
            e.is("of(0, 2)", x.of(0, 2), 1);
        });
    }

    private static void daysByNumbers(Edges edges) {
        edges.of(14, "A DAY goes: all READERS COME, by numbers, each by how it is then; DAY is 1 more.");
        edges.edge("a DAY without anybody", e -> e.is("pass(1)", new ThickerBook().pass(1), 1));
        edges.edge("one BOOK for two", e -> {
            ThickerBook x = Calls.made(Calls.row(50, 60, 40), Calls.row(1, 0, 1, 0), 0, 1);
            x.pass(1);
            e.is("of(0, 2)", x.of(0, 2), 2);
        });
        edges.edge("what one ahead left", e -> {
            ThickerBook x = Calls.made(Calls.row(50, 60, 40), Calls.row(1, 0, 1, 0), 0, 1);
            x.pass(1);
            e.is("of(1, 2)", x.of(1, 2), 0);
        });
        edges.edge("what one behind left", e -> {
            ThickerBook x = Calls.made(Calls.row(60, 50, 40), Calls.row(0, 0, 1, 0), 0, 1);
            Calls.town(x, "love 1 r=0&b=1");
            x.pass(1);
            e.is("of(0, 2) behind 1 DAY", x.of(0, 2), 0);
            x.pass(1);
            e.is("of(0, 2) behind 2 DAYS", x.of(0, 2), 1);
        });
    }

    /** On that DAY, from 9960 on. */
    private static ThickerBook late(ThickerBook x, int day) {
        for (int n = 0; n < 249; n++) {
            x.pass(40);
        }
        x.pass(day - 9960);
        return x;
    }

    private static void refusedDays(Edges edges) {
        edges.of(14, "BAD; STATE: it would be above 9999.");
        edges.edge("n below 0", e -> {
            e.is("pass(-1)", new ThickerBook().pass(-1), BAD);
            e.is("pass(the least int)", new ThickerBook().pass(Integer.MIN_VALUE), BAD);
        });
        edges.edge("n above 40", e -> {
            e.is("pass(41)", new ThickerBook().pass(41), BAD);
            e.is("pass(the greatest int)", new ThickerBook().pass(Integer.MAX_VALUE), BAD);
        });
        edges.edge("to 9999", e -> {
            e.is("pass(1) on DAY 9998", late(new ThickerBook(), 9998).pass(1), 9999);
            e.is("pass(39) on DAY 9960", late(new ThickerBook(), 9960).pass(39), 9999);
        });
        edges.edge("above 9999", e -> {
            e.is("pass(1) on DAY 9999", late(new ThickerBook(), 9999).pass(1), STATE);
            e.is("pass(40) on DAY 9960", late(new ThickerBook(), 9960).pass(40), STATE);
        });
        edges.edge("0 DAYS on DAY 9999", e -> e.is("pass(0)", late(new ThickerBook(), 9999).pass(0), 9999));
        edges.edge("BAD ahead of STATE", e -> e.is("pass(41)", late(new ThickerBook(), 9999).pass(41), BAD));
        edges.of(14, "They change nothing.");
        edges.edge("by STATE not one DAY goes", e -> {
            ThickerBook x = late(Calls.made(Calls.row(50), Calls.row(1, 0), 0), 9998);
            x.book(40);
            e.unchanged("pass(2)", x, () -> x.pass(2));
        });
        edges.edge("by BAD not one DAY goes", e -> {
            ThickerBook x = Calls.made(Calls.row(50, 40), Calls.row(1, 0), 0);
            e.unchanged("pass(41), pass(-1)", x, () -> {
                x.pass(41);
                x.pass(-1);
            });
        });
    }
}
