/** Promises 26 to 30: seen, odds, means. */
final class SeenEdges {
    private static final int NONE = -1, BAD = -2, FULL = -4;
    private static final long NO = Long.MIN_VALUE;

    private SeenEdges() {
    }

    static void add(Edges edges) {
        see(edges);
        refusedSees(edges);
        had(edges);
        hadByDays(edges);
        hadByNone(edges);
        refusedHad(edges);
        firm(edges);
        refusedFirm(edges);
        odds(edges);
        refusedOdds(edges);
        mean(edges);
        refusedMeans(edges);
    }

    /** One READER that HAS BOOK 0. */
    private static ThickerBook one(int... thick) {
        return Calls.made(thick, Calls.row(0, 0), 0);
    }

    /** With so many SEEN, all so. */
    private static ThickerBook seen(int n) {
        ThickerBook x = one(50, 40);
        for (int i = 0; i < n; i++) {
            x.see(1, 0, true);
        }
        return x;
    }

    // ---- promise 26

    private static void see(Edges edges) {
        edges.of(26, "What is SEEN comes: how many there are (book -1: none then, 0, whatever the others are).");
        edges.edge("the first", e -> e.is("see(0, 0, true)", seen(0).see(0, 0, true), 1));
        edges.edge("none then", e -> {
            ThickerBook x = seen(3);
            e.is("see(-1, 0, true)", x.see(-1, 0, true), 0);
            e.is("count(3)", x.count(3), 0);
            e.is("see(0, 0, true)", x.see(0, 0, true), 1);
        });
        edges.edge("none then, of none", e -> e.is("see(-1, 0, true)", new ThickerBook().see(-1, 0, true), 0));
        edges.edge("none then, whatever the DAYS", e -> {
            ThickerBook x = seen(3);
            e.is("see(-1, 21, false)", x.see(-1, 21, false), 0);
            e.is("see(-1, -1, true)", x.see(-1, -1, true), 0);
            e.is("count(3)", x.count(3), 0);
        });
        edges.edge("none then, of six", e -> {
            ThickerBook x = seen(6);
            e.is("see(-1, 0, true)", x.see(-1, 0, true), 0);
            e.is("count(3)", x.count(3), 0);
        });
        edges.of(26, "a BOOK, DAYS (0 .. 20) from now and whether it is ON THE SHELF behind them; 6 at most");
        edges.edge("0 DAYS", e -> e.is("see(0, 0, true)", seen(0).see(0, 0, true), 1));
        edges.edge("20 DAYS", e -> e.is("see(0, 20, true)", seen(0).see(0, 20, true), 1));
        edges.edge("the last BOOK", e -> e.is("see(1, 0, true)", seen(0).see(1, 0, true), 1));
        edges.edge("the sixth", e -> e.is("see(0, 0, true)", seen(5).see(0, 0, true), 6));
        edges.edge("a seventh", e -> e.is("see(0, 0, true)", seen(6).see(0, 0, true), FULL));
    }

    private static void refusedSees(Edges edges) {
        edges.of(26, "NONE; BAD: days; FULL: 6.");
        edges.edge("a BOOK below -1", e -> {
            e.is("see(-2, 0, true)", seen(0).see(-2, 0, true), NONE);
            e.is("see(-5, 0, true)", seen(0).see(-5, 0, true), NONE);
        });
        edges.edge("a BOOK beyond the last", e -> e.is("see(2, 0, true)", seen(0).see(2, 0, true), NONE));
        edges.edge("DAYS below 0", e -> e.is("see(0, -1, true)", seen(0).see(0, -1, true), BAD));
        edges.edge("DAYS above 20", e -> e.is("see(0, 21, true)", seen(0).see(0, 21, true), BAD));
        edges.edge("NONE ahead of BAD", e -> e.is("see(2, 21, true)", seen(0).see(2, 21, true), NONE));
        edges.edge("NONE ahead of FULL", e -> e.is("see(2, 0, true)", seen(6).see(2, 0, true), NONE));
        edges.edge("BAD ahead of FULL", e -> e.is("see(0, 21, true)", seen(6).see(0, 21, true), BAD));
        edges.of(26, "They change nothing.");
        edges.edge("refused, it changes nothing", e -> {
            ThickerBook x = seen(2);
            x.see(2, 0, false);
            x.see(1, 21, false);
            e.is("count(3)", x.count(3), 2);
            e.is("had(0)", x.had(0), 1);
        });
        edges.edge("FULL, it changes nothing", e -> {
            ThickerBook x = seen(6);
            x.see(1, 0, false);
            e.is("count(3)", x.count(3), 6);
            e.is("had(0)", x.had(0), 1);
        });
    }

    // ---- promise 27

    private static void had(Edges edges) {
        edges.of(27, "those BOOKS, as bits, by which, did it HAVE that now, and were what it HAS where that one is now");
        edges.edge("nothing is SEEN", e -> e.is("had(0)", one(1, 2, 3, 4, 5, 6, 7).had(0), 127));
        edges.edge("no BOOKS", e -> e.is("had(0)", Calls.made(Calls.row(), Calls.row(0, 0)).had(0), 0));
        edges.edge("what it HAS", e -> {
            ThickerBook x = one(50, 40);
            x.see(1, 0, true);
            e.is("had(0)", x.had(0), 1);
        });
        edges.edge("none of all", e -> {
            ThickerBook x = one(50, 40);
            x.see(1, 0, true);
            x.see(1, 0, false);
            e.is("had(0)", x.had(0), 0);
        });
        edges.edge("the sixth is not so", e -> {
            ThickerBook x = seen(5);
            e.is("had(0) by five", x.had(0), 1);
            x.see(1, 0, false);
            e.is("had(0) by six", x.had(0), 0);
        });
        edges.edge("the first is not so", e -> {
            ThickerBook x = one(50, 40);
            x.see(1, 0, false);
            x.see(0, 0, true);
            e.is("had(0)", x.had(0), 2);
            x.see(0, 0, false);
            e.is("had(0)", x.had(0), 0);
        });
        edges.of(27, "(with who HAS it, or ON THE SHELF; who HAD it HAS none, if it HAS none)");
        edges.edge("what another HAS", e -> {
            // With book 0 for reader 1 book 3 is with reader 0; with book 1 or 2 it is ON THE SHELF.
            ThickerBook x = Calls.made(Calls.row(50, 30, 40, 20), Calls.row(0, 0, 0, 0), 0, 3);
            x.see(3, 0, false);
            e.is("had(1)", x.had(1), Calls.bits(0, 3));
            x.see(0, 0, false);
            e.is("had(1)", x.had(1), Calls.bits(0, 3));
        });
        edges.edge("what is ON THE SHELF", e -> {
            ThickerBook x = one(50, 40, 30);
            x.see(0, 0, true);
            e.is("had(0)", x.had(0), 6);
        });
    }

    private static void hadByDays(Edges edges) {
        edges.of(27, "a BOOK, DAYS (0 .. 20) from now and whether it is ON THE SHELF behind them");
        edges.edge("behind 0 DAYS", e -> {
            ThickerBook x = Calls.made(Calls.row(50, 40), Calls.row(1, 0), 0);
            x.see(1, 0, true);
            e.is("had(0)", x.had(0), 1);
            x.see(1, 1, true);
            e.is("had(0), behind 1 DAY, too", x.had(0), 0);
        });
        edges.edge("behind 20 DAYS", e -> {
            ThickerBook x = twenty();
            x.see(0, 19, false);
            x.see(0, 20, true);
            e.is("had(0)", x.had(0), 1);
        });
        edges.edge("not so behind 20 DAYS", e -> {
            ThickerBook x = twenty();
            x.see(0, 20, false);
            e.is("had(0)", x.had(0), 0);
        });
        edges.edge("each from the same DAY", e -> {
            // BOOK 2 is taken on DAY 0 or never.
            ThickerBook x = one(50, 40, 30);
            Calls.town(x, "love 1 b=2&d=0");
            x.see(2, 1, false);
            e.is("had(0)", x.had(0), 7);
        });
        edges.edge("from the DAY of asking", e -> {
            ThickerBook x = twenty();
            x.see(0, 19, false);
            x.see(0, 20, true);
            x.pass(1);
            e.is("had(0)", x.had(0), 0);
        });
        edges.of(27, "(DAYS beyond 9999, too), and changes nothing");
        edges.edge("DAYS beyond 9999", e -> {
            ThickerBook x = DayEdges.onTheLastDay();
            Calls.books(x, 50, 40);
            Calls.readers(x, 0, 0);
            x.lend(0, 0);
            Calls.town(x, "love 1 b=1&d=2");
            x.see(1, 3, true);
            x.see(1, 4, false);
            e.is("had(0)", x.had(0), 1);
        });
        edges.edge("changes nothing", e -> {
            ThickerBook x = twenty();
            x.see(0, 20, true);
            e.unchanged("had(0), had(1)", x, () -> {
                x.had(0);
                x.had(1);
            });
        });
    }

    /** On DAY 9 reader 1 takes book 2, so on DAY 19 reader 0 book 1; with another one in its hands nothing is taken. */
    private static ThickerBook twenty() {
        ThickerBook x = Calls.made(Calls.row(50, 40, 30), Calls.row(0, 0, 0, 0), 0, 1);
        Calls.town(x, "love 1 d=9&(r=0&b=1|r=1&b=2)");
        return x;
    }

    private static void hadByNone(Edges edges) {
        edges.of(27, "who HAD it HAS none, if it HAS none");
        edges.edge("who HAD it HAS none", e -> {
            // THIN reader 1 would take book 2, did it HAVE book 0 still.
            ThickerBook x = Calls.made(Calls.row(50, 40, 30), Calls.row(0, 0, 1, 0), -1, 0);
            x.see(2, 1, true);
            e.is("had(0)", x.had(0), 1);
        });
        edges.edge("who HAD it HAS nothing of what it HAD", e -> {
            ThickerBook x = Calls.made(Calls.row(50, 40), Calls.row(0, 0, 0, 0), -1, 0);
            x.see(0, 0, false);
            x.see(1, 0, true);
            e.is("had(0)", x.had(0), 1);
        });
    }

    private static void refusedHad(Edges edges) {
        edges.of(27, "`int had(int reader)`: HAD (bits). NONE.");
        edges.edge("one below 0", e -> e.is("had(-1)", one(50).had(-1), NONE));
        edges.edge("one beyond the last", e -> e.is("had(1)", one(50).had(1), NONE));
        edges.edge("nobody", e -> e.is("had(0)", new ThickerBook().had(0), NONE));
    }

    // ---- promise 28

    /** A STILL one of v 5 that keeps BOOK 0 by v as great as that, and so BOOK 1 is ON THE SHELF. */
    private static ThickerBook still(int least, boolean isOn) {
        ThickerBook x = Calls.made(Calls.row(50, 40), Calls.row(3, 5), 0);
        Calls.town(x, "love " + least + " b=1");
        x.see(1, 1, isOn);
        return x;
    }

    private static void isFirm(Edge e, ThickerBook x, int many, int least) {
        e.is("firm(0, 0)", x.firm(0, 0), many);
        e.is("firm(0, 1)", x.firm(0, 1), least);
    }

    private static void firm(Edges edges) {
        edges.of(28, "how many numbers v (0 .. 9) there are by which, were that its v now, all of SEEN is so; "
            + "the least (-5: none)");
        edges.edge("all of them", e -> isFirm(e, seen(0), 10, 0));
        edges.edge("none of them", e -> isFirm(e, still(10, true), 0, -5));
        edges.edge("the greatest alone", e -> isFirm(e, still(9, true), 1, 9));
        edges.edge("the least alone", e -> isFirm(e, still(1, false), 1, 0));
        edges.edge("all but the greatest", e -> isFirm(e, still(9, false), 9, 0));
        edges.edge("all but the least", e -> isFirm(e, still(1, true), 9, 1));
        edges.edge("one between alone", e -> {
            ThickerBook x = Calls.made(Calls.row(50, 40), Calls.row(0, 9), 0);
            Calls.town(x, "love 1 b=1&v=5&d=0");
            x.see(1, 1, false);
            isFirm(e, x, 1, 5);
        });
        edges.edge("behind 20 DAYS", e -> {
            ThickerBook x = twenty();
            x.see(0, 20, true);
            e.is("firm(0, 0)", x.firm(0, 0), 10);
            x.see(0, 20, false);
            e.is("firm(0, 0)", x.firm(0, 0), 0);
        });
        edges.of(28, "and changes nothing");
        edges.edge("changes nothing", e -> {
            ThickerBook x = still(9, true);
            e.unchanged("firm(0, 0)", x, () -> x.firm(0, 0));
        });
    }

    private static void refusedFirm(Edges edges) {
        edges.of(28, "FIRM: what 0 how many, 1 the least; -5. NONE.");
        edges.edge("one below 0", e -> e.is("firm(-1, 0)", one(50).firm(-1, 0), NONE));
        edges.edge("one beyond the last", e -> e.is("firm(1, 0)", one(50).firm(1, 0), NONE));
        edges.edge("what below 0", e -> e.is("firm(0, -1)", one(50).firm(0, -1), NONE));
        edges.edge("what above 1", e -> e.is("firm(0, 2)", one(50).firm(0, 2), NONE));
    }

    // ---- promise 29

    private static void isFraction(Edge e, String call, long above, long below, long wantAbove, long wantBelow) {
        e.is(call + ", above the line", above, wantAbove);
        e.is(call + ", below the line", below, wantBelow);
    }

    private static void areOdds(Edge e, ThickerBook x, int book, int above, int below) {
        isFraction(e, "odds(" + book + ", ..)", x.odds(book, 0), x.odds(book, 1), above, below);
    }

    private static void odds(Edges edges) {
        edges.of(29, "if one of READERS COMES now, each alike likely: how likely it is ON THE SHELF then: "
            + "a fraction in lowest terms (NO: there are none)");
        edges.edge("never", e -> areOdds(e, one(50, 40), 0, 0, 1));
        edges.edge("for sure", e -> areOdds(e, one(50, 40), 1, 1, 1));
        edges.edge("never of four", e -> areOdds(e, DayEdges.chain(), 0, 0, 1));
        edges.edge("for sure of four", e -> areOdds(e, DayEdges.chain(), 4, 1, 1));
        edges.edge("2 of 4", e -> {
            ThickerBook x = Calls.made(Calls.row(50, 40, 30), Calls.row(1, 0, 1, 0, 0, 0, 0, 0), 0, 1);
            areOdds(e, x, 2, 1, 2);
        });
        edges.edge("3 of 4", e -> {
            ThickerBook x = Calls.made(Calls.row(50, 40, 30), Calls.row(0, 0, 0, 0, 0, 0, 1, 0), 0, -1, -1, 1);
            areOdds(e, x, 2, 3, 4);
        });
        edges.edge("nobody", e -> {
            ThickerBook x = Calls.made(Calls.row(50), Calls.row());
            e.is("odds(0, 0)", x.odds(0, 0), NO);
            e.is("odds(0, 1)", x.odds(0, 1), NO);
        });
        edges.of(29, "and changes nothing");
        edges.edge("changes nothing", e -> {
            ThickerBook x = Calls.made(Calls.row(50, 40), Calls.row(1, 0), 0);
            e.unchanged("odds(1, 0)", x, () -> x.odds(1, 0));
        });
    }

    private static void refusedOdds(Edges edges) {
        edges.of(29, "`long odds(int book, int part)`: ODDS. NO: book, part, nobody.");
        edges.edge("a BOOK below 0", e -> {
            e.is("odds(-1, 0)", one(50).odds(-1, 0), NO);
            e.is("odds(-5, 1)", one(50).odds(-5, 1), NO);
        });
        edges.edge("a BOOK beyond the last", e -> e.is("odds(1, 0)", one(50).odds(1, 0), NO));
        edges.edge("part below 0", e -> e.is("odds(0, -1)", one(50).odds(0, -1), NO));
        edges.edge("part above 1", e -> e.is("odds(0, 2)", one(50).odds(0, 2), NO));
    }

    // ---- promise 30

    private static void isMean(Edge e, ThickerBook x, int n, int above, int below) {
        isFraction(e, "mean(" + n + ", ..)", x.mean(n, 0), x.mean(n, 1), above, below);
    }

    private static void mean(Edges edges) {
        edges.of(30, "THICK of those ON THE SHELF behind n in the mean: a fraction in lowest terms (NO: none is there)");
        edges.edge("one ON THE SHELF", e -> isMean(e, one(50, 40), 0, 40, 1));
        edges.edge("alike ones", e -> isMean(e, one(50, 40, 40, 40), 0, 40, 1));
        edges.edge("a whole number of two", e -> isMean(e, one(50, 41, 43), 0, 42, 1));
        edges.edge("a half", e -> isMean(e, one(50, 40, 41), 0, 81, 2));
        edges.edge("all seven, the greatest", e -> {
            isMean(e, Calls.made(Calls.row(99, 99, 99, 99, 99, 99, 99), Calls.row()), 0, 99, 1);
        });
        edges.edge("a part of four", e -> isMean(e, one(50, 1, 2, 3, 4), 0, 5, 2));
        edges.edge("none ON THE SHELF", e -> {
            e.is("mean(0, 0)", one(50).mean(0, 0), NO);
            e.is("mean(0, 1)", one(50).mean(0, 1), NO);
        });
        edges.edge("no BOOKS", e -> e.is("mean(0, 0)", new ThickerBook().mean(0, 0), NO));
        edges.of(30, "MEAN of n DAYS (0 .. 40)");
        edges.edge("0 DAYS", e -> isMean(e, Calls.made(Calls.row(50, 40), Calls.row(1, 0), 0), 0, 40, 1));
        edges.edge("40 DAYS", e -> {
            isMean(e, DayEdges.chain(), 39, 40, 1);
            isMean(e, DayEdges.chain(), 40, 50, 1);
        });
        edges.of(30, "and changes nothing");
        edges.edge("changes nothing", e -> {
            ThickerBook x = DayEdges.chain();
            e.unchanged("mean(40, 0)", x, () -> x.mean(40, 0));
        });
    }

    private static void refusedMeans(Edges edges) {
        edges.of(30, "`long mean(int n, int part)`: MEAN. NO: n, part, none.");
        edges.edge("n below 0", e -> {
            e.is("mean(-1, 0)", one(50, 40).mean(-1, 0), NO);
            e.is("mean(the least int, 0)", one(50, 40).mean(Integer.MIN_VALUE, 0), NO);
        });
        edges.edge("n above 40", e -> {
            e.is("mean(41, 0)", one(50, 40).mean(41, 0), NO);
            e.is("mean(the greatest int, 0)", one(50, 40).mean(Integer.MAX_VALUE, 0), NO);
        });
        edges.edge("part below 0", e -> e.is("mean(0, -1)", one(50, 40).mean(0, -1), NO));
        edges.edge("part above 1", e -> e.is("mean(0, 2)", one(50, 40).mean(0, 2), NO));
    }
}
