/** Promises 1 to 14: towns, books, readers. */
public final class TownsTest {
    private static final Due DUE = new Due("TownsTest");

    private TownsTest() {
    }

    public static void main(String[] args) {
        newObject();
        feed();
        townsAndFaults();
        tests();
        joins();
        gapAndPaste();
        townsAreFull();
        books();
        readers();
        of();
        choices();
        likes();
        at();
        row();
        lend();
        told();
        come();
        paste();
        pass();
        DUE.end();
    }

    private static void newObject() {
        ThickerBook x = new ThickerBook();
        for (int what = 0; what <= 7; what++) {
            DUE.is("new: count(" + what + ")", x.count(what), 0);
        }
        DUE.is("new: told(0)", x.told(0), 0);
        DUE.is("new: GAP", x.told(1), 1);
        DUE.is("new: PASTE", x.told(2), 5);
        DUE.is("new: of(0, 0)", x.of(0, 0), -1);
        DUE.is("new: at(0, 0)", x.at(0, 0), -1);
        DUE.is("new: undo()", x.undo(), -3);
    }

    private static void feed() {
        ThickerBook x = new ThickerBook();
        DUE.is("feed(0)", x.feed(0), 1);
        DUE.is("feed(127)", x.feed(127), 2);
        DUE.is("feed(-1)", x.feed(-1), -2);
        DUE.is("feed(128)", x.feed(128), -2);
        for (int n = 3; n <= 100; n++) {
            DUE.is("feed " + n, x.feed('g'), n);
        }
        DUE.is("feed beyond", x.feed('g'), -4);
        DUE.is("feed beyond and bad", x.feed(200), -2);
        DUE.is("signs", x.count(6), 100);
        DUE.is("town()", x.town(), -10);
        DUE.is("empty then", x.count(6), 0);
        DUE.is("feed again", x.feed('g'), 1);
    }

    private static void fault(String text, int place) {
        ThickerBook x = new ThickerBook();
        DUE.is("town of '" + text + "'", Calls.town(x, text), -10 - place);
        DUE.is("tape behind '" + text + "'", x.count(6), 0);
        DUE.is("towns behind '" + text + "'", x.count(2), 0);
    }

    private static void fine(String text) {
        ThickerBook x = new ThickerBook();
        DUE.is("town of '" + text + "'", Calls.town(x, text), 0);
        DUE.is("tape behind '" + text + "'", x.count(6), 0);
    }

    private static void townsAndFaults() {
        fine("gap 0");
        fine("gap 99;paste 10;love 9 r=1;bore 0 d>9");
        fine("love 1 !!!!!r=1");
        fine("love 1 (((((r=1)))))");
        fine("love 1 !(!(!r=1))&!!!!!t<9");
        fine("love 1 (r=1)&(((((k>2)))))|!v<5");
        fine("gap 1;gap 2;gap 3;gap 4;gap 5;gap 6;gap 7;gap 8;gap 9;gap 10");
        fault("", 0);
        fault("x", 0);
        fault(" gap 1", 0);
        fault(";gap 1", 0);
        fault("gap", 3);
        fault("gat 1", 2);
        fault("gap1", 3);
        fault("gap  1", 4);
        fault("gap 01", 5);
        fault("gap 00", 5);
        fault("gap 123", 6);
        fault("gap :", 4);
        fault("gap /", 4);
        fault("gap 1:", 5);
        fault("gap 1/", 5);
        fault("gap 1 ", 5);
        fault("gap 1;", 6);
        fault("gap 1;;", 6);
        fault("paste r=1", 6);
        fault("pasta 1", 4);
        fault("love 1", 6);
        fault("love 1 ", 7);
        fault("love 1  r=1", 7);
        fault("lov 1", 3);
        fault("bore 1 r", 8);
        fault("bore 1 r=", 9);
        fault("bore 1 r!1", 8);
        fault("bore 1 r?1", 8);
        fault("bore 1 r;1", 8);
        fault("bore 1 x=1", 7);
        fault("bore 1 r=01", 10);
        fault("bore 1 r=123", 11);
        fault("bore 1 r=1 ", 10);
        fault("bore 1 r=1|", 11);
        fault("bore 1 r=1||r=2", 11);
        fault("bore 1 r=1&|r=2", 11);
        fault("bore 1 (r=1", 11);
        fault("bore 1 (r=1;", 11);
        fault("bore 1 r=1)", 10);
        fault("bore 1 ()", 8);
        fault("bore 1 !!!!!!r=1", 12);
        fault("bore 1 ((((((r=1", 12);
        fault("bore 1 !(!(!(r=1", 12);
        fault("bore 1 !(!(!!r=1", 12);
        fault("bore 1 !(r=1)&!(!(!!r=1", 19);
        fault("gap 1;gap 2;gap 3;gap 4;gap 5;gap 6;gap 7;gap 8;gap 9;gap 0;", 59);
        fault("gap 1;love 2 r=1;bore 3 t<5x", 27);
    }

    /** Whether a town loves book 1 of 64 for reader 2 of kind 3 and v 7 on day 16. */
    private static boolean loves(String where) {
        ThickerBook x = new ThickerBook();
        Calls.books(x, 10, 64);
        Calls.readers(x, 0, 0, 0, 0, 3, 7);
        x.pass(16);
        Calls.town(x, "love 9 " + where);
        return x.likes(2, 1) == 9;
    }

    private static void tests() {
        String[] names = {"r", "k", "v", "b", "t", "d"};
        int[] values = {2, 3, 7, 1, 6, 6};
        for (int i = 0; i < names.length; i++) {
            for (int n = 0; n <= 10; n++) {
                DUE.isTrue(names[i] + "<" + n, loves(names[i] + "<" + n) == values[i] < n);
                DUE.isTrue(names[i] + "=" + n, loves(names[i] + "=" + n) == (values[i] == n));
                DUE.isTrue(names[i] + ">" + n, loves(names[i] + ">" + n) == values[i] > n);
            }
        }
    }

    private static void joins() {
        // r=2 holds, r=0 does not.
        DUE.isTrue("| of none", !loves("r=0|r=0"));
        DUE.isTrue("| of the first", loves("r=2|r=0"));
        DUE.isTrue("| of the last", loves("r=0|r=0|r=2"));
        DUE.isTrue("& of all", loves("r=2&k=3&v=7"));
        DUE.isTrue("& of not all", !loves("r=2&r=0&r=2"));
        DUE.isTrue("& ahead of |", loves("r=2|r=2&r=0"));
        DUE.isTrue("& ahead of |, behind", loves("r=0&r=0|r=2"));
        DUE.isTrue("( ahead of &", !loves("(r=2|r=2)&r=0"));
        DUE.isTrue("!", loves("!r=0") && !loves("!r=2"));
        DUE.isTrue("! of one F alone", loves("!r=0|r=2") && loves("!r=2|r=2"));
        DUE.isTrue("! ahead of &", !loves("!r=0&r=0"));
        DUE.isTrue("! of (", !loves("!(r=0|r=2)") && loves("!(r=2&r=0)"));
        DUE.isTrue("!!", loves("!!r=2") && !loves("!!!r=2"));
        DUE.isTrue("deep", loves("r=0|(r=2&(r=0|(r=2&(r=0|(r=2&r=2)))))"));
    }

    private static void gapAndPaste() {
        ThickerBook x = new ThickerBook();
        DUE.is("town", Calls.town(x, "gap 3;paste 7;gap 12;paste 9"), 0);
        DUE.is("the last GAP", x.told(1), 12);
        DUE.is("the last PASTE", x.told(2), 9);
        DUE.is("a FAULT", Calls.town(x, "gap 4;paste 4;gup"), -25);
        DUE.is("the one that held holds: GAP", x.told(1), 12);
        DUE.is("the one that held holds: PASTE", x.told(2), 9);
        DUE.is("town", Calls.town(x, "gap 0;paste 0"), 1);
        DUE.is("GAP 0", x.told(1), 0);
        DUE.is("PASTE is 1 at least", x.told(2), 1);
        DUE.is("town", Calls.town(x, "love 1 r=0"), 2);
        DUE.is("GAP without", x.told(1), 1);
        DUE.is("PASTE without", x.told(2), 5);
    }

    private static void townsAreFull() {
        ThickerBook x = new ThickerBook();
        for (int n = 0; n < 5; n++) {
            DUE.is("town " + n, Calls.town(x, "gap " + n), n);
        }
        DUE.is("the newest holds", x.told(1), 4);
        DUE.is("FULL", Calls.town(x, "gap"), -4);
        DUE.is("THE TAPE stays", x.count(6), 3);
        DUE.is("TOWNS", x.count(2), 5);
    }

    private static void books() {
        ThickerBook x = new ThickerBook();
        DUE.is("book(0)", x.book(0), -2);
        DUE.is("book(100)", x.book(100), -2);
        for (int n = 0; n < 7; n++) {
            DUE.is("book " + n, x.book(n == 0 ? 1 : n == 1 ? 99 : 50), n);
        }
        DUE.is("book beyond", x.book(50), -4);
        DUE.is("book bad and beyond", x.book(0), -2);
        DUE.is("all ON THE SHELF", x.told(4), 127);
    }

    private static void readers() {
        ThickerBook x = new ThickerBook();
        DUE.is("reader(-1, 0)", x.reader(-1, 0), -1);
        DUE.is("reader(7, 0)", x.reader(7, 0), -1);
        DUE.is("reader(7, 10)", x.reader(7, 10), -1);
        DUE.is("reader(0, -1)", x.reader(0, -1), -2);
        DUE.is("reader(0, 10)", x.reader(0, 10), -2);
        for (int n = 0; n < 4; n++) {
            DUE.is("reader " + n, x.reader(n * 2, 9 - n), n);
        }
        DUE.is("reader beyond", x.reader(0, 0), -4);
        DUE.is("reader bad and beyond", x.reader(0, 10), -2);
        DUE.is("nothing at first", x.of(3, 2), -5);
    }

    private static void of() {
        ThickerBook x = new ThickerBook();
        Calls.books(x, 50, 49, 20, 60);
        Calls.readers(x, 4, 9, 2, 3);
        DUE.is("KIND", x.of(0, 0), 4);
        DUE.is("v", x.of(0, 1), 9);
        DUE.is("HAS none", x.of(0, 2), -5);
        DUE.is("CHOICE of who HAS none", x.of(0, 3), -5);
        DUE.is("MAY take none", x.of(0, 4), 0);
        Calls.lend(x, 0, 3);
        DUE.is("HAS", x.of(0, 2), 0);
        DUE.is("MAY take", x.of(0, 4), Calls.bits(1, 2));
        DUE.is("MAY not take what is HELD", x.of(1, 4), Calls.bits(1, 2));
        DUE.is("CHOICE", x.of(0, 3), 2);
        Calls.town(x, "gap 30");
        DUE.is("by GAP", x.of(0, 4), Calls.bits(2));
        Calls.town(x, "gap 31");
        DUE.is("by more than GAP has", x.of(0, 4), 0);
        DUE.is("of(-1, 0)", x.of(-1, 0), -1);
        DUE.is("of(2, 0)", x.of(2, 0), -1);
        DUE.is("of(0, -1)", x.of(0, -1), -1);
        DUE.is("of(0, 5)", x.of(0, 5), -1);
    }

    private static void choices() {
        ThickerBook x = new ThickerBook();
        Calls.books(x, 90, 40, 40, 30, 30);
        Calls.readers(x, 0, 0, 1, 0, 3, 5, 4, 9);
        x.lend(0, 0);
        DUE.is("none without LIKING greater", x.of(0, 3), -5);
        Calls.town(x, "love 3 b=1|b=2|b=3");
        DUE.is("the first of several", x.of(0, 3), 1);
        Calls.town(x, "love 3 b=1|b=2;love 1 b=2;love 9 b=0");
        DUE.is("none when what it HAS is liked more", x.of(0, 3), -5);
        Calls.town(x, "love 3 b=2;love 4 b=3|b=4");
        DUE.is("the greatest LIKING", x.of(0, 3), 3);
        x.lend(0, -1);
        x.lend(1, 0);
        Calls.town(x, "love 50 b=0;bore 50 b>2");
        DUE.is("THIN: the least THICK, first, whatever the LIKING", x.of(1, 3), 3);
        x.lend(1, -1);
        x.lend(3, 0);
        DUE.is("STEPPING as THIN", x.of(3, 3), 3);
        x.lend(3, 4);
        DUE.is("STEPPING: no thinner one", x.of(3, 3), -5);
        stillChoice();
    }

    /** STILL wants v more of another than READER does. */
    private static void stillChoice() {
        ThickerBook x = new ThickerBook();
        Calls.books(x, 90, 40);
        Calls.readers(x, 3, 5);
        x.lend(0, 0);
        Calls.town(x, "love 5 b=1");
        DUE.is("STILL: v as much", x.of(0, 3), -5);
        Calls.town(x, "love 6 b=1");
        DUE.is("STILL: more than v", x.of(0, 3), 1);
        Calls.town(x, "gap 0;love 6 b=1");
        x.book(90);
        DUE.is("GAP 0: one just as THICK is none", x.of(0, 4), Calls.bits(1));
        ThickerBook y = new ThickerBook();
        Calls.books(y, 98, 99);
        Calls.readers(y, 1, 0, 0, 0);
        y.lend(0, 1);
        DUE.is("THIN: 98 for 99", y.of(0, 3), 0);
        y.lend(0, -1);
        y.lend(1, 1);
        Calls.town(y, "love 1 b=0");
        DUE.is("READER: the first of all", y.of(1, 3), 0);
        DUE.is("MAY take the first of all", y.of(1, 4), Calls.bits(0));
    }

    private static void likes() {
        // PLAIN 7 for book 0 (THICK 60), -4 for book 1 (THICK 9).
        String text = "love 9 b=0;bore 2 t=6;bore 4 b=1";
        int[] first = {7, 7 - 12, 14, 7, 7 - 12 + 6, 14 + 6, 7};
        int[] second = {-4, -4 - 1, -8, -4, -4 - 1 + 6, -8, -4};
        for (int kind = 0; kind <= 6; kind++) {
            ThickerBook x = new ThickerBook();
            Calls.books(x, 60, 9);
            Calls.readers(x, kind, 6);
            Calls.town(x, text);
            DUE.is("likes(0, 0) of kind " + kind, x.likes(0, 0), first[kind]);
            DUE.is("likes(0, 1) of kind " + kind, x.likes(0, 1), second[kind]);
            x.lend(0, 1);
            boolean isStill = kind == 3 || kind == 6;
            DUE.is("likes(0, 1) had by kind " + kind, x.likes(0, 1), second[kind] + (isStill ? 6 : 0));
            DUE.is("likes(0, 0) not had by kind " + kind, x.likes(0, 0), first[kind]);
        }
        ThickerBook x = new ThickerBook();
        x.book(5);
        x.reader(0, 0);
        DUE.is("no TOWN", x.likes(0, 0), 0);
        DUE.is("likes(1, 0)", x.likes(1, 0), -10001);
        DUE.is("likes(0, 1)", x.likes(0, 1), -10001);
        DUE.is("likes(-1, 0)", x.likes(-1, 0), -10001);
        DUE.is("likes(0, -1)", x.likes(0, -1), -10001);
    }

    private static void at() {
        ThickerBook x = new ThickerBook();
        Calls.books(x, 12, 34);
        Calls.readers(x, 0, 0, 0, 0);
        x.lend(1, 0);
        DUE.is("THICK", x.at(1, 0), 34);
        DUE.is("who HAS it", x.at(0, 1), 1);
        DUE.is("ON THE SHELF", x.at(1, 1), -5);
        DUE.is("at(2, 0)", x.at(2, 0), -1);
        DUE.is("at(-1, 0)", x.at(-1, 0), -1);
        DUE.is("at(0, 2)", x.at(0, 2), -1);
        DUE.is("at(0, -1)", x.at(0, -1), -1);
    }

    private static void row() {
        ThickerBook x = new ThickerBook();
        Calls.books(x, 4, 5, 6, 7);
        Calls.readers(x, 6, 0, 3, 0, 6, 0);
        for (int k = 0; k < 4; k++) {
            DUE.is("0 at first", x.row(0, k, 6 + k), 0);
        }
        for (int k = 0; k < 4; k++) {
            DUE.is("by THICK modulo 4", x.likes(0, k), 6 + k);
            DUE.is("another's ROW", x.likes(2, k), 0);
        }
        DUE.is("what it was", x.row(0, 3, 0), 9);
        DUE.is("row(3, 0, 0)", x.row(3, 0, 0), -1);
        DUE.is("row(-1, 0, 0)", x.row(-1, 0, 0), -1);
        DUE.is("row(0, -1, 0)", x.row(0, -1, 0), -1);
        DUE.is("row(0, 4, 10)", x.row(0, 4, 10), -1);
        DUE.is("row(0, 0, 10)", x.row(0, 0, 10), -2);
        DUE.is("row(0, 0, -1)", x.row(0, 0, -1), -2);
        DUE.is("row(1, 0, 10)", x.row(1, 0, 10), -2);
        DUE.is("row(1, 0, 1)", x.row(1, 0, 1), -3);
        DUE.is("changed nothing", x.row(0, 0, 6), 6);
    }

    private static void lend() {
        ThickerBook x = new ThickerBook();
        Calls.books(x, 10, 20, 30);
        Calls.readers(x, 0, 0, 0, 0);
        DUE.is("lend(0, 1)", x.lend(0, 1), -5);
        DUE.is("its own again", x.lend(0, 1), 1);
        DUE.is("still HAS it", x.at(1, 1), 0);
        DUE.is("another's", x.lend(1, 1), -3);
        DUE.is("another", x.lend(0, 2), 1);
        DUE.is("what it HAD is ON THE SHELF", x.told(4), Calls.bits(0, 1));
        DUE.is("none", x.lend(0, -1), 2);
        DUE.is("none again", x.lend(0, -1), -5);
        DUE.is("all ON THE SHELF", x.told(4), 7);
        DUE.is("lend(2, 0)", x.lend(2, 0), -1);
        DUE.is("lend(-1, 0)", x.lend(-1, 0), -1);
        DUE.is("lend(0, 3)", x.lend(0, 3), -1);
        DUE.is("lend(0, -2)", x.lend(0, -2), -1);
    }

    private static void told() {
        ThickerBook x = new ThickerBook();
        Calls.books(x, 50, 30, 20);
        Calls.readers(x, 0, 0, 2, 0, 1, 0);
        Calls.lend(x, 0, 1, -1);
        Calls.town(x, "gap 40;paste 3;love 6 b=0;bore 5 b=1;love 50 b=2");
        x.pass(3);
        DUE.is("DAY", x.told(0), 3);
        DUE.is("GAP", x.told(1), 40);
        DUE.is("PASTE", x.told(2), 3);
        DUE.is("TOTAL", x.told(3), 6 - 10);
        DUE.is("ON THE SHELF", x.told(4), 4);
        DUE.is("told(-1)", x.told(-1), -1);
        DUE.is("told(5)", x.told(5), -1);
    }

    private static void come() {
        ThickerBook x = new ThickerBook();
        Calls.books(x, 50, 30, 20);
        Calls.readers(x, 1, 0, 1, 0, 1, 0);
        Calls.lend(x, 0, 1);
        DUE.is("takes the thinnest", x.come(0), 2);
        DUE.is("leaves what it HAD", x.told(4), 1);
        DUE.is("MAY take none", x.come(1), 1);
        DUE.is("HAS none", x.come(2), -5);
        DUE.is("DAY stays", x.told(0), 0);
        x.reader(0, 4);
        x.lend(3, 0);
        DUE.is("likes none more", x.come(3), 0);
        Calls.books(x, 10);
        Calls.town(x, "love 1 v=4&b=3");
        DUE.is("by the TOWN that holds", x.come(3), 3);
        DUE.is("come(4)", x.come(4), -1);
        DUE.is("come(-1)", x.come(-1), -1);
    }

    private static void paste() {
        ThickerBook x = new ThickerBook();
        Calls.books(x, 90, 4);
        Calls.readers(x, 0, 0, 0, 0, 0, 0);
        Calls.lend(x, 0, 1);
        DUE.is("GLUES", x.paste(0, true), 95);
        DUE.is("99 at most", x.paste(0, true), 99);
        DUE.is("stays", x.paste(0, true), 99);
        DUE.is("1 at least", x.paste(1, false), 1);
        DUE.is("THICK then", x.at(1, 0), 1);
        Calls.town(x, "paste 20");
        DUE.is("TEARS", x.paste(0, false), 79);
        DUE.is("GLUES by another PASTE", x.paste(1, true), 21);
        DUE.is("HAS none", x.paste(2, true), -3);
        DUE.is("paste(3, true)", x.paste(3, true), -1);
        DUE.is("paste(-1, false)", x.paste(-1, false), -1);
    }

    private static void pass() {
        ThickerBook y = new ThickerBook();
        Calls.books(y, 50, 40, 30);
        Calls.readers(y, 0, 0);
        y.lend(0, 0);
        Calls.town(y, "love 5 b=1");
        DUE.is("pass(1)", y.pass(1), 1);
        DUE.is("by the TOWN that holds", y.of(0, 2), 1);
        Calls.town(y, "love 5 b=2");
        DUE.is("pass(1)", y.pass(1), 2);
        DUE.is("by the next TOWN", y.of(0, 2), 2);
        ThickerBook x = new ThickerBook();
        Calls.books(x, 50, 40, 30, 20);
        Calls.readers(x, 0, 0, 1, 0);
        Calls.lend(x, 0, 1);
        // On DAY 1 (and 11, ..) reader 0 wants book 2; reader 1 has taken book 3 on DAY 0, leaving book 1.
        Calls.town(x, "love 5 r=0&b=2&d=1");
        DUE.is("pass(0)", x.pass(0), 0);
        DUE.is("pass(1)", x.pass(1), 1);
        DUE.is("not yet", x.of(0, 2), 0);
        DUE.is("by numbers", x.of(1, 2), 3);
        DUE.is("pass(1)", x.pass(1), 2);
        DUE.is("by how DAY is as they COME", x.of(0, 2), 2);
        x.lend(0, 0);
        Calls.town(x, "love 5 r=0&b=2&t>3");
        DUE.is("pass(0)", x.pass(0), 2);
        x.lend(0, 2);
        DUE.is("GLUES to 40", x.paste(0, true) + x.paste(0, true), 75);
        x.lend(0, 0);
        DUE.is("pass(-1)", x.pass(-1), -2);
        DUE.is("pass(41)", x.pass(41), -2);
        for (int n = 1; n <= 249; n++) {
            DUE.is("pass(40)", x.pass(40), 2 + 40 * n);
        }
        DUE.is("by how THICK it has become", x.of(0, 2), 2);
        DUE.is("too late", x.pass(38), -3);
        DUE.is("bad and too late", x.pass(99), -2);
        DUE.is("the last", x.pass(37), 9999);
        DUE.is("none more", x.pass(1), -3);
        DUE.is("none", x.pass(0), 9999);
    }
}
