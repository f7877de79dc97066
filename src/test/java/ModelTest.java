import java.util.Random;

/** Runs of calls drawn by fixed seeds, each answer held against the Model's. */
public final class ModelTest {
    private static final int RUNS = Integer.getInteger("runs", 400);
    private static final int CALLS = 512;

    private final Due due = new Due("ModelTest");
    private final Random random;
    private final int run;
    private ThickerBook x = new ThickerBook();
    private Model m = new Model();
    private String text = "";
    private int made = 0;

    private ModelTest(int run) {
        this.run = run;
        random = new Random(run);
    }

    public static void main(String[] args) {
        long answers = 0;
        for (int run = 0; run < RUNS; run++) {
            ModelTest test = new ModelTest(run);
            test.go();
            answers += CALLS;
            if (!test.due.isFine()) System.exit(1);
        }
        System.out.println("ModelTest: " + RUNS + " runs, " + answers + " calls, all as the model's");
    }

    private void go() {
        int start = random.nextInt(4);
        if (start == 1) setUpDeep();
        if (start > 1) setUp();
        for (; made < CALLS && due.isFine(); made++) {
            if (!text.isEmpty()) {
                int sign = text.charAt(0);
                text = text.substring(1);
                if (text.isEmpty()) {
                    is("town()", x.town(), m.town());
                } else {
                    is("feed(" + sign + ")", x.feed(sign), m.feed(sign));
                }
            } else if (random.nextInt(3) == 0) {
                change(random.nextInt(14));
            } else {
                ask(random.nextInt(26));
            }
        }
    }

    /** Most runs start with books and readers, so that there is something to ask. */
    private void setUp() {
        int books = 1 + random.nextInt(7);
        for (int b = 0; b < books; b++) {
            int thick = 1 + random.nextInt(99);
            is("book", x.book(thick), m.book(thick));
        }
        int readers = random.nextInt(5);
        for (int r = 0; r < readers; r++) {
            int kind = random.nextInt(7);
            int v = random.nextInt(10);
            is("reader", x.reader(kind, v), m.reader(kind, v));
            int book = random.nextInt(books);
            is("lend", x.lend(r, book), m.lend(r, book));
        }
        made += books + 2 * readers;
        if (random.nextInt(3) > 0) text = townText() + "#";
    }

    /** The four thickest are HELD, so that there are many GOES. */
    private void setUpDeep() {
        int thick = 99;
        for (int b = 0; b < 7; b++) {
            is("book", x.book(thick), m.book(thick));
            thick -= 1 + random.nextInt(13);
        }
        for (int r = 0; r < 4; r++) {
            int kind = random.nextInt(7);
            is("reader", x.reader(kind, r), m.reader(kind, r));
            is("lend", x.lend(r, r), m.lend(r, r));
        }
        made += 15;
        text = townText() + "#";
    }

    private void is(String call, long got, long want) {
        due.is("run " + run + " call " + made + ": " + call, got, want);
    }

    /** Mostly from least to most, now and then beyond. */
    private int number(int least, int most) {
        int luck = random.nextInt(40);
        if (luck == 0) return least - 1;
        if (luck == 1) return most + 1;
        if (luck == 2) return new int[] {Integer.MIN_VALUE, Integer.MAX_VALUE, -5, -1, 100, 9999}[random.nextInt(6)];
        return least + random.nextInt(most - least + 1);
    }

    private int aReader() {
        return number(0, Math.max(0, m.count(0) - 1));
    }

    private int aBook() {
        return number(0, Math.max(0, m.count(1) - 1));
    }

    private int what10() {
        return random.nextInt(3) == 0 ? 10 + aReader() : number(0, 1);
    }

    private void change(int which) {
        int a = aReader();
        int b = aBook();
        boolean is = random.nextBoolean();
        switch (which) {
            case 0: {
                int sign = number(0, 127);
                if (random.nextInt(3) == 0) is("feed(" + sign + ")", x.feed(sign), m.feed(sign));
                break;
            }
            case 1:
                if (random.nextInt(3) == 0) {
                    is("town()", x.town(), m.town());
                } else if (CALLS - made > 120) {
                    text = (random.nextInt(3) == 0 ? spoilt(townText()) : townText()) + "#";
                }
                break;
            case 2: {
                int thick = number(1, 99);
                is("book(" + thick + ")", x.book(thick), m.book(thick));
                break;
            }
            case 3: {
                int kind = number(0, 6);
                int v = number(0, 9);
                is("reader(" + kind + ", " + v + ")", x.reader(kind, v), m.reader(kind, v));
                break;
            }
            case 4: {
                int k = number(0, 3);
                int n = number(0, 9);
                is("row(" + a + ", " + k + ", " + n + ")", x.row(a, k, n), m.row(a, k, n));
                break;
            }
            case 5:
            case 6: {
                int book = random.nextInt(10) == 0 ? -1 : b;
                is("lend(" + a + ", " + book + ")", x.lend(a, book), m.lend(a, book));
                break;
            }
            case 7:
                is("come(" + a + ")", x.come(a), m.come(a));
                break;
            case 8:
                is("paste(" + a + ", " + is + ")", x.paste(a, is), m.paste(a, is));
                break;
            case 9: {
                int n = random.nextInt(3) == 0 ? number(0, 40) : number(0, 3);
                is("pass(" + n + ")", x.pass(n), m.pass(n));
                break;
            }
            case 10: {
                int book = random.nextInt(12) == 0 ? -1 : b;
                int days = random.nextBoolean() ? number(0, 20) : number(0, 2);
                is("see(" + book + ", " + days + ", " + is + ")", x.see(book, days, is), m.see(book, days, is));
                break;
            }
            case 11: {
                int what = random.nextInt(12) == 0 ? -1 : number(0, 3);
                is("plan(" + what + ", " + a + ")", x.plan(what, a), m.plan(what, a));
                break;
            }
            case 12: {
                int reader = random.nextInt(12) == 0 ? -1 : a;
                int book = random.nextInt(3) == 0 ? Math.max(-2, m.of(a, 2)) : b;
                is("note(" + reader + ", " + book + ")", x.note(reader, book), m.note(reader, book));
                break;
            }
            default:
                if (is) is("image()", x.image(), m.image());
                else is("undo()", x.undo(), m.undo());
                break;
        }
    }

    private void ask(int which) {
        int a = aReader();
        int b = aBook();
        int n = random.nextBoolean() ? number(0, 40) : number(0, 4);
        int what = number(0, 1);
        switch (which) {
            case 0: {
                int w = number(0, 4);
                is("of(" + a + ", " + w + ")", x.of(a, w), m.of(a, w));
                break;
            }
            case 1:
                is("likes(" + a + ", " + b + ")", x.likes(a, b), m.likes(a, b));
                break;
            case 2:
                is("at(" + b + ", " + what + ")", x.at(b, what), m.at(b, what));
                break;
            case 3: {
                int w = number(0, 4);
                is("told(" + w + ")", x.told(w), m.told(w));
                break;
            }
            case 4: {
                int w = what10();
                is("on(" + n + ", " + w + ")", x.on(n, w), m.on(n, w));
                break;
            }
            case 5:
                is("until(" + what + ")", x.until(what), m.until(what));
                break;
            case 6:
                is("few(" + a + ", " + b + ")", x.few(a, b), m.few(a, b));
                break;
            case 7:
                if (random.nextInt(4) == 0) is("reach(" + a + ")", x.reach(a), m.reach(a));
                break;
            case 8:
                if (random.nextInt(10) == 0) is("never()", x.never(), m.never());
                break;
            case 9: {
                int w = what10();
                is("most(" + w + ")", x.most(w), m.most(w));
                break;
            }
            case 10: {
                int k = number(-1, 3);
                is("order(" + k + ")", x.order(k), m.order(k));
                break;
            }
            case 11:
                is("glues(" + a + ", " + b + ")", x.glues(a, b), m.glues(a, b));
                break;
            case 12: {
                int o = aReader();
                is("tears(" + a + ", " + o + ")", x.tears(a, o), m.tears(a, o));
                break;
            }
            case 13:
                is("wanted(" + b + ")", x.wanted(b), m.wanted(b));
                break;
            case 14:
                is("swells(" + n + ")", x.swells(n), m.swells(n));
                break;
            case 15:
            case 16:
                is("had(" + a + ")", x.had(a), m.had(a));
                break;
            case 17:
            case 18:
                is("firm(" + a + ", " + what + ")", x.firm(a, what), m.firm(a, what));
                break;
            case 19:
                is("odds(" + b + ", " + what + ")", x.odds(b, what), m.odds(b, what));
                break;
            case 20:
                is("mean(" + n + ", " + what + ")", x.mean(n, what), m.mean(n, what));
                break;
            case 21:
                is("done(" + what + ")", x.done(what), m.done(what));
                break;
            case 22:
                is("looked()", x.looked(), m.looked());
                break;
            case 23: {
                int act = number(0, 2);
                int i = random.nextBoolean() ? random.nextInt() : random.nextInt(20) - 10;
                is("act(" + a + ", " + act + ", " + i + ")", x.act(a, act, i), m.act(a, act, i));
                int t = number(0, 7);
                is("trace(" + t + ")", x.trace(t), m.trace(t));
                made++;
                break;
            }
            case 24: {
                int k = number(0, 6);
                is("as(" + a + ", " + k + ")", x.as(a, k), m.as(a, k));
                break;
            }
            default: {
                int w = number(0, 7);
                is("count(" + w + ")", x.count(w), m.count(w));
                break;
            }
        }
    }

    // ---- texts of TOWNS

    private String townText() {
        StringBuilder text = new StringBuilder();
        int clauses = random.nextInt(8) == 0 ? 10 : 1 + random.nextInt(6);
        for (int c = 0; c < clauses; c++) {
            String clause = clause();
            if (text.length() + clause.length() > 98) break;
            if (c > 0) text.append(';');
            text.append(clause);
        }
        return text.toString();
    }

    private String clause() {
        int luck = random.nextInt(10);
        if (luck == 0) return "gap " + random.nextInt(random.nextBoolean() ? 4 : 30);
        if (luck == 1) return "paste " + random.nextInt(random.nextBoolean() ? 4 : 30);
        int n = random.nextInt(random.nextBoolean() ? 10 : 100);
        return (luck < 7 ? "love " : "bore ") + n + " " + where(random.nextInt(4));
    }

    private String where(int size) {
        if (size == 0) return test();
        switch (random.nextInt(5)) {
            case 0:
                return where(size - 1) + "|" + test();
            case 1:
                return where(size - 1) + "&" + test();
            case 2:
                return "!" + (random.nextBoolean() ? test() : "(" + where(size - 1) + ")");
            case 3:
                return "(" + where(size - 1) + ")";
            default:
                return test() + "|" + where(size - 1);
        }
    }

    private String test() {
        char what = "rkvbtd".charAt(random.nextInt(6));
        int most = what == 'r' ? 4 : what == 'k' ? 7 : 10;
        return "" + what + "<=>".charAt(random.nextInt(3)) + (random.nextInt(9) == 0 ? random.nextInt(100) : random.nextInt(most));
    }

    private String spoilt(String text) {
        int at = random.nextInt(text.length() + 1);
        String signs = "rkvbtd<=>0123456789!()&|; glpo";
        char sign = signs.charAt(random.nextInt(signs.length()));
        switch (random.nextInt(5)) {
            case 0:
                return text.substring(0, at);
            case 1:
                return text.substring(0, at) + sign + text.substring(at);
            case 2:
                return text.substring(0, at) + (at < text.length() ? text.substring(at + 1) : "");
            case 3:
                return text.substring(0, at) + "(((!((".substring(random.nextInt(6)) + text.substring(at);
            default:
                return at < text.length() ? text.substring(0, at) + sign + text.substring(at + 1) : text;
        }
    }
}
