/** What tests do over and over with a ThickerBook. */
final class Calls {
    private Calls() {
    }

    /** Feeds a text and answers what town() says of it. */
    static int town(ThickerBook x, String text) {
        for (int i = 0; i < text.length(); i++) {
            x.feed(text.charAt(i));
        }
        return x.town();
    }

    static void books(ThickerBook x, int... thick) {
        for (int t : thick) {
            x.book(t);
        }
    }

    /** Readers of these kinds, each with a number v. */
    static void readers(ThickerBook x, int... kindsAndVs) {
        for (int i = 0; i + 1 < kindsAndVs.length; i += 2) {
            x.reader(kindsAndVs[i], kindsAndVs[i + 1]);
        }
    }

    /** Lends the i-th book named to the i-th reader; -1 for none. */
    static void lend(ThickerBook x, int... books) {
        for (int r = 0; r < books.length; r++) {
            x.lend(r, books[r]);
        }
    }

    static int bits(int... places) {
        int bits = 0;
        for (int p : places) {
            bits |= 1 << p;
        }
        return bits;
    }
}
