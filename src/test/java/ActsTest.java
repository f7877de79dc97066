/** Promises 35 to 40: acts, the image. */
public final class ActsTest {
    private static final Due DUE = new Due("ActsTest");

    private ActsTest() {
    }

    public static void main(String[] args) {
        acts();
        actsWrap();
        noAct();
        as();
        imageOfAll();
        imageAgain();
        imageKeepsTowns();
        imageKeepsWhatIsSeen();
        count();
        DUE.end();
    }

    /** READERS 0 to 3 of these kinds, with v 4, 5, 6 and 7. */
    private static ThickerBook four(int... kinds) {
        ThickerBook x = new ThickerBook();
        for (int i = 0; i < 4; i++) {
            x.reader(kinds[i], 4 + i);
        }
        return x;
    }

    private static void act(ThickerBook x, int reader, int act, int n, int answer, int... bodies) {
        String call = "act(" + reader + ", " + act + ", " + n + ")";
        DUE.is(call, x.act(reader, act, n), answer);
        DUE.is(call + " bodies", x.count(7), bodies.length);
        for (int i = 0; i < bodies.length; i++) {
            DUE.is(call + " trace(" + i + ")", x.trace(i), bodies[i]);
        }
        DUE.is(call + " trace beyond", x.trace(bodies.length), -1);
        DUE.is(call + " trace(-1)", x.trace(-1), -1);
    }

    private static void acts() {
        // READER 0 v 4, THIN 1 v 5, WANTING 2 v 6, STILL 3 v 7.
        ThickerBook x = four(0, 1, 2, 3);
        act(x, 0, 0, 9, 9, 1);
        act(x, 0, 1, 9, 9 - 4, 2, 1);
        act(x, 0, 2, 9, (9 - 4) * 2, 3, 2, 1);
        act(x, 1, 0, 9, 27 + 1, 11, 1);
        act(x, 1, 1, 9, 28 - 5, 2, 11, 1);
        act(x, 1, 2, 9, 23 * 2, 3, 2, 11, 1);
        act(x, 2, 0, 9, 11, 1);
        act(x, 2, 1, 9, -(11 - 6), 21, 2, 1);
        act(x, 2, 2, 9, -10, 3, 21, 2, 1);
        act(x, 3, 0, 9, 12, 1);
        act(x, 3, 1, 9, 12 - 7, 2, 1);
        act(x, 3, 2, 9, 10 ^ 7, 31, 3, 2, 1);
        // READER 0 v 4, STEPPING 1 v 5, GLUING 2 v 6, TOLD 3 v 7.
        ThickerBook y = four(0, 4, 5, 6);
        act(y, 1, 0, 9, 28, 11, 1);
        act(y, 1, 1, 9, 23, 2, 11, 1);
        act(y, 1, 2, 9, (8 * 3 + 1 - 5) * 2 + 2 * 3 + 1, 41, 3, 2, 11, 1, 11, 1);
        act(y, 2, 0, 9, 11 ^ 2, 51, 1);
        act(y, 2, 1, 9, -((11 ^ 2) - 6), 21, 2, 51, 1);
        act(y, 2, 2, 9, -((11 ^ 2) - 6) * 2, 3, 21, 2, 51, 1);
        act(y, 3, 0, 9, 12, 1);
        act(y, 3, 1, 9, 12 - 7 + 7, 61, 2, 1);
        act(y, 3, 2, 9, 24 ^ 7, 31, 3, 61, 2, 1);
    }

    private static void actsWrap() {
        ThickerBook x = four(0, 1, 2, 4);
        int most = Integer.MAX_VALUE;
        int least = Integer.MIN_VALUE;
        act(x, 2, 0, most, most + 2, 1);
        act(x, 1, 0, most, most * 3 + 1, 11, 1);
        act(x, 0, 2, least, (least - 4) * 2, 3, 2, 1);
        act(x, 2, 1, least + 4, least, 21, 2, 1);
        act(x, 3, 2, least, (most * 3 + 3 - 7) * 2 + 9, 41, 3, 2, 11, 1, 11, 1);
    }

    private static void noAct() {
        ThickerBook x = four(0, 1, 2, 3);
        DUE.is("trace(0) at first", x.trace(0), -1);
        int[][] wrong = {{4, 0}, {-1, 0}, {0, 3}, {0, -1}};
        for (int[] w : wrong) {
            x.act(0, 2, 5);
            DUE.is("bodies", x.count(7), 3);
            DUE.is("act(" + w[0] + ", " + w[1] + ", 5)", x.act(w[0], w[1], 5), 0);
            DUE.is("no bodies", x.count(7), 0);
            DUE.is("no TRACE", x.trace(0), -1);
        }
    }

    private static void as() {
        int[] above = {-1, 0, 0, 0, 1, 2, 3};
        for (int kind = 0; kind <= 6; kind++) {
            ThickerBook x = new ThickerBook();
            x.reader(kind, 8);
            for (int k = 0; k <= 6; k++) {
                boolean is = k == kind || k == 0 || k == above[kind];
                DUE.is("kind " + kind + ": as(0, " + k + ")", x.as(0, k), is ? 8 : -6);
            }
            DUE.is("as(0, 7)", x.as(0, 7), -1);
            DUE.is("as(0, -1)", x.as(0, -1), -1);
            DUE.is("as(1, 0)", x.as(1, 0), -1);
            DUE.is("as(-1, 0)", x.as(-1, 0), -1);
        }
    }

    private static void imageOfAll() {
        ThickerBook x = new ThickerBook();
        Calls.books(x, 30, 20);
        Calls.readers(x, 6, 1, 1, 2);
        Calls.lend(x, 0, -1);
        Calls.town(x, "gap 2;paste 3");
        x.row(0, 2, 5);
        x.pass(7);
        x.see(0, 1, true);
        x.plan(1, 0);
        x.note(0, 0);
        x.feed('g');
        DUE.is("image()", x.image(), 2);
        changeAll(x);
        x.act(0, 0, 5);
        DUE.is("undo()", x.undo(), 2);
        int[] counts = {2, 2, 1, 1, 1, 1, 1, 1};
        for (int what = 0; what <= 7; what++) {
            DUE.is("count(" + what + ")", x.count(what), counts[what]);
        }
        DUE.is("DAY", x.told(0), 7);
        DUE.is("GAP", x.told(1), 2);
        DUE.is("PASTE", x.told(2), 3);
        DUE.is("THICK", x.at(0, 0), 30);
        DUE.is("HAS", x.of(0, 2), 0);
        DUE.is("HAS none", x.of(1, 2), -5);
        DUE.is("the ROW", x.likes(0, 0), 5 + 1);
        DUE.is("SEEN", x.had(0), 2);
        DUE.is("NOTES", x.looked(), -5);
        // Glued from 30 to 33 its place in the ROW is another.
        DUE.is("the PLAN", x.done(0), 1);
        DUE.is("the PLAN", x.done(1), 2);
        DUE.is("THE TRACE is not in it", x.trace(0), 1);
        x.feed('a');
        x.feed('x');
        DUE.is("THE TAPE", x.town(), -12);
    }

    private static void changeAll(ThickerBook x) {
        x.town();
        Calls.town(x, "gap 9;paste 9");
        x.paste(0, true);
        x.row(0, 2, 9);
        x.lend(0, 1);
        x.lend(1, 0);
        x.book(9);
        x.reader(3, 3);
        x.pass(40);
        x.see(-1, 0, true);
        x.see(0, 2, false);
        x.plan(-1, 1);
        x.plan(0, 1);
        x.plan(2, 1);
        x.note(-1, 1);
        x.note(1, 1);
        x.feed('z');
        x.feed('z');
    }

    private static void imageAgain() {
        ThickerBook x = new ThickerBook();
        DUE.is("no IMAGE", x.undo(), -3);
        DUE.is("image of nobody", x.image(), 0);
        x.reader(0, 0);
        DUE.is("undo()", x.undo(), 0);
        DUE.is("nobody", x.count(0), 0);
        x.reader(0, 0);
        x.reader(0, 0);
        DUE.is("undo() again", x.undo(), 0);
        x.reader(0, 0);
        DUE.is("a later IMAGE", x.image(), 1);
        x.reader(0, 0);
        DUE.is("undo()", x.undo(), 1);
    }

    private static void imageKeepsTowns() {
        ThickerBook x = new ThickerBook();
        Calls.books(x, 10);
        Calls.readers(x, 0, 0);
        x.image();
        Calls.town(x, "love 9 b=0");
        DUE.is("a TOWN", x.likes(0, 0), 9);
        x.undo();
        DUE.is("no TOWN", x.likes(0, 0), 0);
        DUE.is("the number is free again", Calls.town(x, "love 8 b=0"), 0);
        x.image();
        DUE.is("the next", Calls.town(x, "love 7 b=0"), 1);
        x.undo();
        DUE.is("the first holds", x.likes(0, 0), 8);
    }

    private static void imageKeepsWhatIsSeen() {
        ThickerBook x = new ThickerBook();
        Calls.books(x, 50, 40);
        Calls.readers(x, 0, 0);
        x.lend(0, 0);
        // Taken on DAY 1, so that it is ON THE SHELF behind 1 DAY and not behind 2.
        Calls.town(x, "love 1 b=1&d=1");
        x.see(1, 1, true);
        DUE.is("HAD", x.had(0), 1);
        x.image();
        x.see(-1, 0, true);
        x.see(0, 2, false);
        DUE.is("HAD by none", x.had(0), 0);
        x.undo();
        DUE.is("HAD again", x.had(0), 1);
    }

    private static void count() {
        ThickerBook x = new ThickerBook();
        DUE.is("count(-1)", x.count(-1), -1);
        DUE.is("count(8)", x.count(8), -1);
        Calls.books(x, 1, 2, 3, 4, 5, 6, 7);
        Calls.readers(x, 0, 0, 4, 0);
        Calls.town(x, "gap 1");
        Calls.town(x, "gap 1");
        Calls.town(x, "gap 1");
        for (int n = 0; n < 4; n++) {
            x.see(0, 0, true);
        }
        for (int n = 0; n < 5; n++) {
            x.plan(3, 0);
        }
        for (int n = 0; n < 6; n++) {
            x.note(0, 0);
        }
        for (int n = 0; n < 8; n++) {
            x.feed(n);
        }
        x.act(1, 2, 0);
        int[] counts = {2, 7, 3, 4, 5, 6, 8, 7};
        for (int what = 0; what <= 7; what++) {
            DUE.is("count(" + what + ")", x.count(what), counts[what]);
        }
    }
}
