/** Promises 6 and 7: what one MAY take, its CHOICE, LIKING. */
final class LikingEdges {
    private static final int NONE = -1, NO_NUMBER = -10001;

    private LikingEdges() {
    }

    static void add(Edges edges) {
        mayByGap(edges);
        may(edges);
        choiceByLiking(edges);
        choiceByThick(edges);
        refusedOf(edges);
        testsOfTime(edges);
        testsOfNumbers(edges);
        plain(edges);
        likingOfKinds(edges);
        likingOfWhatItHas(edges);
        refusedLikes(edges);
    }

    /** One READER that HAS BOOK 0. */
    private static ThickerBook one(String town, int... thick) {
        ThickerBook x = Calls.made(thick, Calls.row(0, 0), 0);
        if (!town.isEmpty()) Calls.town(x, town);
        return x;
    }

    // ---- promise 6

    private static void mayByGap(Edges edges) {
        edges.of(6, "if what it HAS is THICKER than that (by GAP 0, too, just as THICK isn't), by GAP or more");
        edges.edge("just as THICK", e -> e.is("of(0, 4)", one("", 50, 50, 49, 51).of(0, 4), 4));
        edges.edge("just as THICK by GAP 0", e -> e.is("of(0, 4)", one("gap 0", 50, 50, 49, 51).of(0, 4), 4));
        edges.edge("THICKER ones by GAP 0", e -> e.is("of(0, 4)", one("gap 0", 50, 51, 99).of(0, 4), 0));
        edges.edge("by GAP", e -> e.is("of(0, 4)", one("gap 20", 50, 30).of(0, 4), 2));
        edges.edge("by less than GAP", e -> e.is("of(0, 4)", one("gap 20", 50, 31).of(0, 4), 0));
        edges.edge("by more than GAP", e -> e.is("of(0, 4)", one("gap 20", 50, 29).of(0, 4), 2));
        edges.edge("by all that there can be", e -> e.is("of(0, 4)", one("gap 98", 99, 1, 2).of(0, 4), 2));
        edges.edge("by the greatest GAP", e -> e.is("of(0, 4)", one("gap 99", 99, 1).of(0, 4), 0));
    }

    private static void may(Edges edges) {
        edges.of(6, "who HAS none MAY take none");
        edges.edge("HAS none, MAY take none", e -> {
            ThickerBook x = Calls.made(Calls.row(50, 1), Calls.row(0, 0, 1, 0));
            e.is("of(0, 4)", x.of(0, 4), 0);
            e.is("of(1, 4)", x.of(1, 4), 0);
        });
        edges.of(6, "One MAY take a BOOK ON THE SHELF");
        edges.edge("what another HAS", e -> {
            ThickerBook x = Calls.made(Calls.row(50, 40), Calls.row(0, 0, 0, 0), 0, 1);
            e.is("of(0, 4)", x.of(0, 4), 0);
        });
        edges.edge("the last of READERS, the last BOOK", e -> {
            ThickerBook x = Calls.made(Calls.row(60, 60, 60, 60, 60, 50, 10), Calls.row(0, 0, 0, 0, 0, 0, 0, 0), 0, 1, 2, 5);
            e.is("of(3, 4)", x.of(3, 4), 64);
        });
        edges.edge("the first BOOK", e -> {
            ThickerBook x = Calls.made(Calls.row(10, 60), Calls.row(0, 0), 1);
            e.is("of(0, 4)", x.of(0, 4), 1);
        });
        edges.edge("nothing is ON THE SHELF", e -> e.is("of(0, 4)", one("", 50).of(0, 4), 0));
    }

    private static void choiceByLiking(Edges edges) {
        edges.of(6, "that with the greatest LIKING (of several the first), if that is greater than LIKING of what it HAS");
        edges.edge("CHOICE of several alike", e -> e.is("of(0, 3)", one("love 1 b>0", 50, 40, 30, 20).of(0, 3), 1));
        edges.edge("CHOICE of LIKING alike", e -> e.is("of(0, 3)", one("love 7 r=0", 50, 40).of(0, 3), -5));
        edges.edge("CHOICE of LIKING 1 more", e -> e.is("of(0, 3)", one("love 2 b=1;love 1 b=0", 50, 40).of(0, 3), 1));
        edges.edge("CHOICE of LIKING 1 less", e -> e.is("of(0, 3)", one("love 1 b=1;love 2 b=0", 50, 40).of(0, 3), -5));
        edges.edge("CHOICE of LIKING below 0", e -> e.is("of(0, 3)", one("bore 5 b=0;bore 4 b=1", 50, 40).of(0, 3), 1));
        edges.edge("CHOICE of what is liked by 0", e -> e.is("of(0, 3)", one("bore 1 b=0", 50, 40).of(0, 3), 1));
        edges.edge("CHOICE with none that it MAY take", e -> e.is("of(0, 3)", one("love 9 b>0", 50, 50, 60).of(0, 3), -5));
        edges.edge("CHOICE by v of what it HAS", e -> {
            ThickerBook x = Calls.made(Calls.row(50, 40), Calls.row(3, 5), 0);
            Calls.town(x, "love 5 b=1");
            e.is("of(0, 3)", x.of(0, 3), -5);
            Calls.town(x, "love 6 b=1");
            e.is("of(0, 3)", x.of(0, 3), 1);
        });
        edges.of(6, "2 what it HAS, 3 its CHOICE (-5 each: none)");
        edges.edge("HAS none, no CHOICE", e -> {
            ThickerBook x = Calls.made(Calls.row(50, 1), Calls.row(0, 0, 1, 0));
            Calls.town(x, "love 9 b=1");
            for (int r = 0; r < 2; r++) {
                e.is("of(" + r + ", 2)", x.of(r, 2), -5);
                e.is("of(" + r + ", 3)", x.of(r, 3), -5);
            }
        });
    }

    private static void choiceByThick(Edges edges) {
        edges.of(6, "THIN, STEPPING: the least THICK of those that it MAY take (of several the first).");
        edges.edge("THIN of several as THICK", e -> e.is("of(0, 3)", thin(1, 50, 30, 20, 20).of(0, 3), 2));
        edges.edge("STEPPING of several as THICK", e -> e.is("of(0, 3)", thin(4, 50, 30, 20, 20).of(0, 3), 2));
        edges.edge("THIN of what is liked less", e -> {
            ThickerBook x = thin(1, 50, 40, 30);
            Calls.town(x, "love 99 b=0;bore 99 b=2");
            e.is("of(0, 3)", x.of(0, 3), 2);
        });
        edges.edge("STEPPING of what is liked less", e -> {
            ThickerBook x = thin(4, 50, 40, 30);
            Calls.town(x, "love 99 b=0;bore 99 b=2");
            e.is("of(0, 3)", x.of(0, 3), 2);
        });
        edges.edge("THIN of 98 for 99", e -> e.is("of(0, 3)", thin(1, 99, 98).of(0, 3), 1));
        edges.edge("THIN of 1 for 2", e -> e.is("of(0, 3)", thin(1, 2, 1).of(0, 3), 1));
        edges.edge("THIN with none that it MAY take", e -> e.is("of(0, 3)", thin(1, 50, 50, 60).of(0, 3), -5));
        edges.edge("THIN when another HAS the least THICK", e -> {
            ThickerBook x = Calls.made(Calls.row(50, 10, 30), Calls.row(1, 0, 0, 0), 0, 1);
            e.is("of(0, 3)", x.of(0, 3), 2);
        });
    }

    /** One of that KIND, with v 9, that HAS BOOK 0. */
    private static ThickerBook thin(int kind, int... thick) {
        return Calls.made(thick, Calls.row(kind, 9), 0);
    }

    private static void refusedOf(Edges edges) {
        edges.of(6, "4 what it MAY take (bits). NONE.");
        edges.edge("one below 0", e -> {
            e.is("of(-1, 0)", one("", 50).of(-1, 0), NONE);
            e.is("of(the least int, 0)", one("", 50).of(Integer.MIN_VALUE, 0), NONE);
        });
        edges.edge("one beyond the last", e -> {
            e.is("of(1, 1)", one("", 50).of(1, 1), NONE);
            e.is("of(the greatest int, 1)", one("", 50).of(Integer.MAX_VALUE, 1), NONE);
        });
        edges.edge("one of nobody", e -> e.is("of(0, 0)", new ThickerBook().of(0, 0), NONE));
        edges.edge("a fifth one", e -> {
            ThickerBook x = Calls.made(Calls.row(50), Calls.row(0, 0, 0, 0, 0, 0, 0, 0));
            e.is("of(4, 0)", x.of(4, 0), NONE);
        });
        edges.edge("what below 0", e -> {
            e.is("of(0, -1)", one("", 50).of(0, -1), NONE);
            e.is("of(0, the least int)", one("", 50).of(0, Integer.MIN_VALUE), NONE);
        });
        edges.edge("what above 4", e -> {
            e.is("of(0, 5)", one("", 50).of(0, 5), NONE);
            e.is("of(0, the greatest int)", one("", 50).of(0, Integer.MAX_VALUE), NONE);
        });
    }

    // ---- promise 7

    private static void testsOfTime(Edges edges) {
        edges.of(7, "t THICK by 10 (cut), d DAY modulo 10");
        edges.edge("t of THICK 9, 10, 19, 99", e -> {
            ThickerBook x = one("love 1 t=0;love 2 t=1;love 4 t=9", 9, 10, 19, 99, 1);
            int[] likings = {1, 2, 2, 4, 1};
            for (int b = 0; b < 5; b++) {
                e.is("likes(0, " + b + ")", x.likes(0, b), likings[b]);
            }
        });
        edges.edge("t is never above 9", e -> e.is("likes(0, 0)", one("love 1 t>9", 99).likes(0, 0), 0));
        edges.edge("d of DAY 9, 10, 11", e -> {
            ThickerBook x = one("love 1 d=9;love 2 d=0;love 4 d=1", 50);
            e.is("likes(0, 0) on DAY 0", x.likes(0, 0), 2);
            x.pass(9);
            e.is("likes(0, 0) on DAY 9", x.likes(0, 0), 1);
            x.pass(1);
            e.is("likes(0, 0) on DAY 10", x.likes(0, 0), 2);
            x.pass(1);
            e.is("likes(0, 0) on DAY 11", x.likes(0, 0), 4);
        });
        edges.edge("d of DAY 9999", e -> {
            ThickerBook x = one("love 1 d=9;love 2 d<9;love 4 d>9", 50);
            for (int n = 0; n < 249; n++) {
                x.pass(40);
            }
            x.pass(39);
            e.is("told(0)", x.told(0), 9999);
            e.is("likes(0, 0)", x.likes(0, 0), 1);
        });
    }

    private static void testsOfNumbers(Edges edges) {
        edges.of(7, "one of < = >, a number likewise");
        edges.edge("< at its number", e -> isLikedByFive(e, "v<5", 0));
        edges.edge("< above", e -> isLikedByFive(e, "v<6", 1));
        edges.edge("> at its number", e -> isLikedByFive(e, "v>5", 0));
        edges.edge("> below", e -> isLikedByFive(e, "v>4", 1));
        edges.edge("= beside its number", e -> {
            isLikedByFive(e, "v=4", 0);
            isLikedByFive(e, "v=5", 1);
            isLikedByFive(e, "v=6", 0);
        });
        edges.edge("the greatest number", e -> {
            isLikedByFive(e, "v<99", 1);
            isLikedByFive(e, "v>99", 0);
        });
        edges.edge("the number 0", e -> {
            e.is("likes(0, 0) by v<0", one("love 1 v<0", 50).likes(0, 0), 0);
            e.is("likes(0, 0) by v=0", one("love 1 v=0", 50).likes(0, 0), 1);
            e.is("likes(0, 0) by v>0", one("love 1 v>0", 50).likes(0, 0), 0);
        });
        edges.of(7, "of one of READERS and a BOOK r the number of the one, k its KIND, v its v, b the number of the other");
        edges.edge("the greatest r, k, v, b", e -> {
            ThickerBook x = Calls.made(Calls.row(1, 1, 1, 1, 1, 1, 1), Calls.row(0, 0, 0, 0, 0, 0, 6, 9));
            Calls.town(x, "love 1 r=3;love 2 k=6;love 4 v=9;love 8 b=6");
            e.is("likes(3, 6)", x.likes(3, 6), 15);
        });
        edges.edge("the least r, k, v, b", e -> {
            ThickerBook x = one("love 1 r=0;love 2 k=0;love 4 v=0;love 8 b=0", 50);
            e.is("likes(0, 0)", x.likes(0, 0), 15);
        });
    }

    private static void isLikedByFive(Edge e, String test, int liking) {
        ThickerBook x = Calls.made(Calls.row(50), Calls.row(0, 5));
        Calls.town(x, "love 1 " + test);
        e.is("likes(0, 0) by " + test, x.likes(0, 0), liking);
    }

    private static void plain(Edges edges) {
        edges.of(7, "the n of all love whose E holds, less those of all bore, together (may be below 0)");
        edges.edge("PLAIN below 0", e -> e.is("likes(0, 0)", one("bore 99 r=0;bore 99 b=0", 50).likes(0, 0), -198));
        edges.edge("PLAIN above 99", e -> {
            ThickerBook x = one("love 99 r<9" + ";love 99 r<9".repeat(7), 50);
            e.is("likes(0, 0)", x.likes(0, 0), 792);
        });
        edges.edge("love and bore alike", e -> e.is("likes(0, 0)", one("love 99 r=0;bore 99 r=0", 50).likes(0, 0), 0));
        edges.edge("n 0", e -> e.is("likes(0, 0)", one("love 0 r=0;bore 0 r=0", 50).likes(0, 0), 0));
        edges.edge("no E that holds", e -> e.is("likes(0, 0)", one("love 9 r=1;bore 8 b=1", 50).likes(0, 0), 0));
        edges.edge("no love and no bore", e -> e.is("likes(0, 0)", one("gap 9;paste 9", 50).likes(0, 0), 0));
        edges.edge("love as the tenth CLAUSE", e -> {
            ThickerBook x = one("gap 1;".repeat(9) + "love 7 r=0", 50);
            e.is("likes(0, 0)", x.likes(0, 0), 7);
        });
        edges.edge("nine love", e -> {
            ThickerBook x = one("love 1 r<9" + ";love 1 r<9".repeat(8), 50);
            e.is("likes(0, 0)", x.likes(0, 0), 9);
        });
        edges.edge("an E of 100 bytes", e -> {
            ThickerBook x = one("love 1 " + "r=1|".repeat(22) + "!r=10", 50);
            e.is("likes(0, 0)", x.likes(0, 0), 1);
        });
    }

    private static void likingOfKinds(Edges edges) {
        edges.of(7, "THIN: as READER, less THICK by 5 (cut).");
        edges.edge("THIN of THICK 4, 5, 9, 99", e -> areLiked(e, 1, 0, Calls.row(0, -1, -1, -19)));
        edges.of(7, "WANTING: twice what READER has.");
        edges.edge("WANTING below 0", e -> {
            ThickerBook x = Calls.made(Calls.row(50), Calls.row(2, 9));
            Calls.town(x, "bore 99 r=0;bore 99 r=0");
            e.is("likes(0, 0)", x.likes(0, 0), -396);
        });
        edges.of(7, "STEPPING: as THIN, and v.");
        edges.edge("STEPPING of THICK 4, 5, 9, 99 by v 9", e -> areLiked(e, 4, 9, Calls.row(9, 8, 8, -10)));
        edges.edge("STEPPING by v 0", e -> areLiked(e, 4, 0, Calls.row(0, -1, -1, -19)));
        edges.of(7, "GLUING: as WANTING, and THICK by 10 (cut).");
        edges.edge("GLUING of THICK 4, 5, 9, 99", e -> areLiked(e, 5, 9, Calls.row(0, 0, 0, 9)));
        edges.edge("GLUING below 0", e -> {
            ThickerBook x = Calls.made(Calls.row(9, 50), Calls.row(5, 9));
            Calls.town(x, "bore 99 r=0;bore 99 r=0");
            e.is("likes(0, 0)", x.likes(0, 0), -396);
            e.is("likes(0, 1)", x.likes(0, 1), -391);
        });
        edges.edge("GLUING of THICK 10, 19, 20", e -> {
            ThickerBook x = Calls.made(Calls.row(10, 19, 20), Calls.row(5, 0));
            e.is("likes(0, 0)", x.likes(0, 0), 1);
            e.is("likes(0, 1)", x.likes(0, 1), 1);
            e.is("likes(0, 2)", x.likes(0, 2), 2);
        });
        edges.of(7, "TOLD: as STILL, and its ROW at THICK modulo 4.");
        edges.edge("TOLD of THICK 1, 3, 4, 98, 99", e -> {
            ThickerBook x = Calls.made(Calls.row(1, 3, 4, 98, 99), Calls.row(6, 0));
            for (int k = 0; k < 4; k++) {
                x.row(0, k, 5 + k);
            }
            int[] likings = {6, 8, 5, 7, 8};
            for (int b = 0; b < 5; b++) {
                e.is("likes(0, " + b + ")", x.likes(0, b), likings[b]);
            }
        });
    }

    /** Without a TOWN, of THICK 4, 5, 9 and 99. */
    private static void areLiked(Edge e, int kind, int v, int[] likings) {
        ThickerBook x = Calls.made(Calls.row(4, 5, 9, 99), Calls.row(kind, v));
        for (int b = 0; b < 4; b++) {
            e.is("likes(0, " + b + ")", x.likes(0, b), likings[b]);
        }
    }

    private static void likingOfWhatItHas(Edges edges) {
        edges.of(7, "STILL: as READER, and v more for what it HAS.");
        edges.edge("STILL of what it HAS", e -> {
            ThickerBook x = Calls.made(Calls.row(50, 40), Calls.row(3, 9), 0);
            e.is("likes(0, 0)", x.likes(0, 0), 9);
            e.is("likes(0, 1)", x.likes(0, 1), 0);
        });
        edges.edge("STILL that HAS none", e -> {
            ThickerBook x = Calls.made(Calls.row(50, 40), Calls.row(3, 9));
            e.is("likes(0, 0)", x.likes(0, 0), 0);
            e.is("likes(0, 1)", x.likes(0, 1), 0);
        });
        edges.edge("STILL of what another HAS", e -> {
            ThickerBook x = Calls.made(Calls.row(50, 40), Calls.row(3, 9, 3, 5), 0, 1);
            e.is("likes(0, 1)", x.likes(0, 1), 0);
            e.is("likes(1, 1)", x.likes(1, 1), 5);
        });
        edges.of(7, "TOLD: as STILL, and its ROW at THICK modulo 4.");
        edges.edge("TOLD of what it HAS", e -> {
            ThickerBook x = Calls.made(Calls.row(4, 8), Calls.row(6, 9), 0);
            x.row(0, 0, 9);
            e.is("likes(0, 0)", x.likes(0, 0), 18);
            e.is("likes(0, 1)", x.likes(0, 1), 9);
        });
    }

    private static void refusedLikes(Edges edges) {
        edges.of(7, "LIKING. -10001: NONE.");
        edges.edge("one below 0", e -> {
            e.is("likes(-1, 0)", one("", 50).likes(-1, 0), NO_NUMBER);
            e.is("likes(the least int, 0)", one("", 50).likes(Integer.MIN_VALUE, 0), NO_NUMBER);
        });
        edges.edge("one beyond the last", e -> {
            e.is("likes(1, 0)", one("", 50).likes(1, 0), NO_NUMBER);
            e.is("likes(the greatest int, 0)", one("", 50).likes(Integer.MAX_VALUE, 0), NO_NUMBER);
        });
        edges.edge("a BOOK below 0", e -> {
            e.is("likes(0, -1)", one("", 50).likes(0, -1), NO_NUMBER);
            e.is("likes(0, -5)", one("", 50).likes(0, -5), NO_NUMBER);
            e.is("likes(0, the least int)", one("", 50).likes(0, Integer.MIN_VALUE), NO_NUMBER);
        });
        edges.edge("a BOOK beyond the last", e -> {
            e.is("likes(0, 1)", one("", 50).likes(0, 1), NO_NUMBER);
            e.is("likes(0, the greatest int)", one("", 50).likes(0, Integer.MAX_VALUE), NO_NUMBER);
        });
        edges.edge("nobody and no BOOKS", e -> e.is("likes(0, 0)", new ThickerBook().likes(0, 0), NO_NUMBER));
    }
}
