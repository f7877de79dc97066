/** What tests do over and over with a ThickerBook. */
final class Calls {
    private Calls() {
    }

    /** Feeds a text and answers what town() says of it. */
    static int town(ThickerBook x, String text) {
        feed(x, text);
        return x.town();
    }

    static void books(ThickerBook x, int... thick) {
        for (int t : thick) {
            x.book(t);
        }
    }

    /** Readers of these kinds, each with a number v. */
    static void readers(ThickerBook x, int... kindsAndVs) {
        for (int i = 0; i + 1 < kindsAndVs.length; i += 2) {
            x.reader(kindsAndVs[i], kindsAndVs[i + 1]);
        }
    }

    /** Lends the i-th book named to the i-th reader; -1 for none. */
    static void lend(ThickerBook x, int... books) {
        for (int r = 0; r < books.length; r++) {
            x.lend(r, books[r]);
        }
    }

    static int bits(int... places) {
        int bits = 0;
        for (int p : places) {
            bits |= 1 << p;
        }
        return bits;
    }

    /** An object with these BOOKS, READERS by KIND and v, and what each of them HAS (-1 for none). */
    static ThickerBook made(int[] thick, int[] kindsAndVs, int... has) {
        ThickerBook x = new ThickerBook();
        books(x, thick);
        readers(x, kindsAndVs);
        lend(x, has);
        return x;
    }

    static int[] row(int... numbers) {
        return numbers;
    }

    /** What town() answers to a text on a new object. */
    static int town(String text) {
        return town(new ThickerBook(), text);
    }

    static void feed(ThickerBook x, String text) {
        for (int i = 0; i < text.length(); i++) {
            x.feed(text.charAt(i));
        }
    }

    /** What all tells by calls that change nothing, to see whether another call changed something. */
    static String all(ThickerBook x) {
        StringBuilder text = new StringBuilder();
        for (int what = 0; what <= 7; what++) {
            text.append(x.count(what)).append(' ');
        }
        for (int what = 0; what <= 4; what++) {
            text.append(x.told(what)).append(' ');
        }
        for (int r = 0; r < x.count(0); r++) {
            text.append(x.of(r, 0)).append(' ').append(x.of(r, 1)).append(' ').append(x.of(r, 2)).append(' ');
            for (int b = 0; b < x.count(1); b++) {
                text.append(x.likes(r, b)).append(' ');
            }
        }
        for (int b = 0; b < x.count(1); b++) {
            text.append(x.at(b, 0)).append(' ');
        }
        return text.append(x.done(0)).append(' ').append(x.looked()).append(' ').append(x.trace(0)).toString();
    }
}
