import java.util.Arrays;

/** A book only for a thicker one. What each call answers stands in DOC.md, as numbered promises. */
public final class ThickerBook {
    public static final int NONE = -1, BAD = -2, STATE = -3, FULL = -4;
    public static final long NO = Long.MIN_VALUE;

    // The document answers -5 for no BOOK, nobody and "not by so many" alike; so does all in here.
    private static final int ABSENT = -5;
    private static final int OTHER_KIND = -6;
    private static final int FIRST_FAULT = -10;
    private static final int NO_NUMBER = -10001;
    private static final int BAD_DAYS = -10002;

    private static final int BOOKS = 7, READERS = 4, TOWNS = 5, CLAUSES = 10, SIGNS = 100;
    private static final int SEEN = 6, PLANS = 8, NOTES = 8, ROW = 4, KEPT_BODIES = 20;
    private static final int THICKEST = 99, TOP_V = 9, TOP_SIGN = 127;
    private static final int DAYS = 40, LAST_DAY = 9999, SEEN_DAYS = 20, TIMES = 20, DIGITS = 10;

    private static final int READER = 0, THIN = 1, WANTING = 2, STILL = 3, STEPPING = 4, GLUING = 5, TOLD = 6;
    private static final int KINDS = 7;
    // The KIND above each KIND.
    private static final int[] ABOVE = {-1, 0, 0, 0, 1, 2, 3};

    private final World now = new World();
    // All that is asked is tried out in this copy, so that asking changes nothing.
    private final World then = new World();
    private final World imageWorld = new World();
    private final Papers papers = new Papers();
    private final Papers imagePapers = new Papers();
    private final Goes goes = new Goes();
    private final Acts acts = new Acts();
    private boolean imaged = false;

    public ThickerBook() {
    }

    // ---- towns, books, readers

    public int feed(int sign) {
        if (sign < 0 || sign > TOP_SIGN) return BAD;
        if (papers.signs >= SIGNS) return FULL;
        put(papers.tape, papers.signs, sign);
        papers.signs++;
        return papers.signs;
    }

    public int town() {
        if (now.towns >= TOWNS) return FULL;
        Town next = new Town();
        Reading reading = new Reading(papers.tape, papers.signs, next);
        boolean whole = reading.clauses();
        papers.signs = 0;
        if (!whole) return FIRST_FAULT - reading.place;
        now.town = next;
        now.towns++;
        return now.towns - 1;
    }

    public int book(int thick) {
        if (thick < 1 || thick > THICKEST) return BAD;
        if (now.books >= BOOKS) return FULL;
        put(now.thick, now.books, thick);
        now.books++;
        return now.books - 1;
    }

    public int reader(int kind, int v) {
        if (kind < 0 || kind >= KINDS) return NONE;
        if (v < 0 || v > TOP_V) return BAD;
        if (now.readers >= READERS) return FULL;
        now.enter(kind, v);
        return now.readers - 1;
    }

    public int of(int reader, int what) {
        if (!now.isReader(reader)) return NONE;
        switch (what) {
            case 0:
                return get(now.kind, reader);
            case 1:
                return get(now.v, reader);
            case 2:
                return get(now.has, reader);
            case 3:
                fresh();
                return then.choice(reader);
            case 4:
                return now.takeable(reader);
            default:
                return NONE;
        }
    }

    public int likes(int reader, int book) {
        if (!now.isReader(reader) || !now.isBook(book)) return NO_NUMBER;
        fresh();
        return then.liking(reader, book);
    }

    public int at(int book, int what) {
        if (!now.isBook(book) || what < 0 || what > 1) return NONE;
        return what == 0 ? get(now.thick, book) : now.holder(book);
    }

    public int row(int reader, int k, int n) {
        if (!now.isReader(reader) || k < 0 || k >= ROW) return NONE;
        if (n < 0 || n > TOP_V) return BAD;
        if (get(now.kind, reader) != TOLD) return STATE;
        int was = get(now.rows, reader * ROW + k);
        put(now.rows, reader * ROW + k, n);
        return was;
    }

    public int lend(int reader, int book) {
        if (!now.isReader(reader) || book != -1 && !now.isBook(book)) return NONE;
        int holder = book == -1 ? ABSENT : now.holder(book);
        if (holder != ABSENT && holder != reader) return STATE;
        int had = get(now.has, reader);
        put(now.has, reader, book == -1 ? ABSENT : book);
        return had;
    }

    public int told(int what) {
        switch (what) {
            case 0:
                return now.day;
            case 1:
                return now.town.gap;
            case 2:
                return now.town.paste;
            case 3:
                fresh();
                return then.total();
            case 4:
                return now.shelf();
            default:
                return NONE;
        }
    }

    public int come(int reader) {
        if (!now.isReader(reader)) return NONE;
        now.learnAnew();
        now.comes(reader);
        return get(now.has, reader);
    }

    public int paste(int reader, boolean is) {
        if (!now.isReader(reader)) return NONE;
        if (get(now.has, reader) == ABSENT) return STATE;
        now.bind(reader, is);
        return get(now.thick, get(now.has, reader));
    }

    public int pass(int n) {
        if (!isDays(n)) return BAD;
        if (now.day + n > LAST_DAY) return STATE;
        now.learnAnew();
        for (int d = 0; d < n; d++) {
            now.goDay();
        }
        return now.day;
    }

    // ---- days to come, goes

    public int on(int n, int what) {
        int reader = what - 10;
        if (what != 0 && what != 1 && !now.isReader(reader)) return NO_NUMBER;
        if (!isDays(n)) return BAD_DAYS;
        int took = goOn(n);
        if (what == 0) return took;
        return what == 1 ? then.total() : get(then.has, reader);
    }

    public int until(int what) {
        if (what < 0 || what > 1) return NONE;
        fresh();
        for (int d = 0; d <= DAYS; d++) {
            if (what == 0 ? then.rests() : then.isStuck()) return d;
            then.goDay();
        }
        return ABSENT;
    }

    public int few(int reader, int book) {
        if (!now.isReader(reader) || !now.isBook(book)) return NONE;
        fresh();
        goes.search(then);
        return goes.fewest(reader, book);
    }

    public int reach(int reader) {
        if (!now.isReader(reader)) return NONE;
        fresh();
        goes.search(then);
        return goes.reached(reader);
    }

    public int never() {
        fresh();
        goes.search(then);
        int bits = now.allBooks();
        for (int r = 0; r < now.readers; r++) {
            bits &= ~goes.reached(r);
        }
        return bits;
    }

    public int most(int what) {
        int reader = what - 10;
        if (what != 0 && what != 1 && !now.isReader(reader)) return NO_NUMBER;
        fresh();
        goes.search(then);
        int best = goes.best(then);
        if (what == 1) return get(goes.few, best);
        then.hold(best);
        return what == 0 ? then.total() : get(then.has, reader);
    }

    // ---- orders, paste

    public int order(int k) {
        if (k < -1 || k >= READERS) return NO_NUMBER;
        if (k >= now.readers) return ABSENT;
        fresh();
        int order = bestOrder();
        return k == -1 ? totalBy(order) : comer(order, k);
    }

    public int glues(int reader, int book) {
        if (!now.isReader(reader) || !now.isBook(book)) return NONE;
        int own = get(now.has, reader);
        if (own == ABSENT || now.holder(book) != ABSENT) return ABSENT;
        for (int n = 0; n <= TIMES; n++) {
            int thick = Math.min(THICKEST, get(now.thick, own) + n * now.town.paste);
            if (now.isThicker(thick, get(now.thick, book))) return n;
        }
        return ABSENT;
    }

    public int tears(int reader, int other) {
        if (!now.isReader(reader) || !now.isReader(other)) return NONE;
        if (reader == other) return BAD;
        int own = get(now.has, reader);
        int others = get(now.has, other);
        if (own == ABSENT || others == ABSENT) return ABSENT;
        for (int n = 0; n <= TIMES; n++) {
            int thick = Math.max(1, get(now.thick, own) - n * now.town.paste);
            if (now.isThicker(get(now.thick, others), thick)) return n;
        }
        return ABSENT;
    }

    public int wanted(int book) {
        if (!now.isBook(book)) return NONE;
        fresh();
        int bits = 0;
        for (int r = 0; r < now.readers; r++) {
            if (then.likesMost(r, book)) bits |= 1 << r;
        }
        return bits;
    }

    public int swells(int n) {
        if (!isDays(n)) return BAD_DAYS;
        goOn(n);
        return then.shelfThick() - now.shelfThick();
    }

    // ---- seen, odds; part 0 above, 1 below the line

    public int see(int book, int days, boolean isOn) {
        if (book == -1) {
            papers.seens = 0;
            return 0;
        }
        if (!now.isBook(book)) return NONE;
        if (days < 0 || days > SEEN_DAYS) return BAD;
        if (papers.seens >= SEEN) return FULL;
        put(papers.seenBook, papers.seens, book);
        put(papers.seenDays, papers.seens, days);
        put(papers.seenOn, papers.seens, isOn ? 1 : 0);
        papers.seens++;
        return papers.seens;
    }

    public int had(int reader) {
        if (!now.isReader(reader)) return NONE;
        fresh();
        int bits = 0;
        for (int b = 0; b < now.books; b++) {
            then.goBack(now);
            then.trade(reader, b);
            if (isAllSeen()) bits |= 1 << b;
        }
        return bits;
    }

    public int firm(int reader, int what) {
        if (!now.isReader(reader) || what < 0 || what > 1) return NONE;
        fresh();
        int many = 0;
        int least = ABSENT;
        for (int v = TOP_V; v >= 0; v--) {
            then.goBack(now);
            put(then.v, reader, v);
            then.learnAnew();
            if (isAllSeen()) {
                many++;
                least = v;
            }
        }
        return what == 0 ? many : least;
    }

    public long odds(int book, int part) {
        if (!now.isBook(book) || part < 0 || part > 1 || now.readers == 0) return NO;
        fresh();
        int times = 0;
        for (int r = 0; r < now.readers; r++) {
            then.goBack(now);
            then.comes(r);
            if (then.holder(book) == ABSENT) times++;
        }
        return fraction(times, now.readers, part);
    }

    public long mean(int n, int part) {
        if (!isDays(n) || part < 0 || part > 1) return NO;
        goOn(n);
        int many = Integer.bitCount(then.shelf());
        return many == 0 ? NO : fraction(then.shelfThick(), many, part);
    }

    // ---- plans, notes

    public int plan(int what, int reader) {
        if (what == -1) {
            papers.plans = 0;
            return 0;
        }
        if (what < 0 || what > 3 || what != 3 && !now.isReader(reader)) return NONE;
        if (papers.plans >= PLANS) return FULL;
        put(papers.planWhat, papers.plans, what);
        put(papers.planReader, papers.plans, reader);
        papers.plans++;
        return papers.plans;
    }

    public int done(int what) {
        if (what < 0 || what > 1) return NO_NUMBER;
        fresh();
        for (int p = 0; p < papers.plans; p++) {
            follow(get(papers.planWhat, p), get(papers.planReader, p));
        }
        return what == 0 ? then.total() : then.shelf();
    }

    public int note(int reader, int book) {
        if (reader == -1) {
            papers.notes = 0;
            return 0;
        }
        if (!now.isReader(reader) || !now.isBook(book)) return NONE;
        if (papers.notes >= NOTES) return FULL;
        put(papers.noteReader, papers.notes, reader);
        put(papers.noteBook, papers.notes, book);
        papers.notes++;
        return papers.notes;
    }

    public int looked() {
        for (int n = 0; n < papers.notes; n++) {
            if (get(now.has, get(papers.noteReader, n)) != get(papers.noteBook, n)) return n;
        }
        return ABSENT;
    }

    // ---- acts, the image

    public int act(int reader, int act, int x) {
        acts.ran = 0;
        if (!now.isReader(reader) || act < 0 || act > 2) return 0;
        return acts.doneBy(reader, get(now.kind, reader), get(now.v, reader), act, x);
    }

    public int trace(int i) {
        if (i < 0 || i >= acts.ran || i >= KEPT_BODIES) return NONE;
        return get(acts.bodies, i);
    }

    public int as(int reader, int k) {
        if (!now.isReader(reader) || k < 0 || k >= KINDS) return NONE;
        return isUnder(get(now.kind, reader), k) ? get(now.v, reader) : OTHER_KIND;
    }

    public int image() {
        imageWorld.copy(now);
        imagePapers.copy(papers);
        imaged = true;
        return now.readers;
    }

    public int undo() {
        if (!imaged) return STATE;
        now.copy(imageWorld);
        papers.copy(imagePapers);
        return now.readers;
    }

    public int count(int what) {
        switch (what) {
            case 0:
                return now.readers;
            case 1:
                return now.books;
            case 2:
                return now.towns;
            case 3:
                return papers.seens;
            case 4:
                return papers.plans;
            case 5:
                return papers.notes;
            case 6:
                return papers.signs;
            case 7:
                return acts.ran;
            default:
                return NONE;
        }
    }

    // ---- what the calls share

    /** The number in a row; 0 where there is none, so that no index is ever out of its row. */
    private static int get(int[] row, int i) {
        return row != null && i >= 0 && i < row.length ? row[i] : 0;
    }

    private static void put(int[] row, int i, int n) {
        if (row != null && i >= 0 && i < row.length) row[i] = n;
    }

    private static void copyRow(int[] from, int[] to) {
        for (int i = 0; to != null && i < to.length; i++) {
            to[i] = get(from, i);
        }
    }

    private static boolean isDays(int n) {
        return n >= 0 && n <= DAYS;
    }

    private static boolean isUnder(int kind, int k) {
        int at = kind;
        for (int step = 0; step < KINDS && at != -1; step++) {
            if (at == k) return true;
            at = get(ABOVE, at);
        }
        return false;
    }

    /** What r of so many READERS HAS by a holding's number; BOOKS for none. */
    private static int heldIn(int holding, int r, int readers) {
        return holding >> 3 * (readers - 1 - r) & 7;
    }

    private static long fraction(int above, int below, int part) {
        int divisor = above;
        int rest = below;
        for (int i = 0; i < THICKEST && rest != 0; i++) {
            int next = divisor % rest;
            divisor = rest;
            rest = next;
        }
        if (divisor == 0) return NO;
        return part == 0 ? above / divisor : below / divisor;
    }

    private void fresh() {
        then.copy(now);
        then.learn();
    }

    private int goOn(int n) {
        fresh();
        int took = 0;
        for (int d = 0; d < n; d++) {
            took += then.goDay();
        }
        return took;
    }

    /** Whether all of SEEN is so from how all is then. */
    private boolean isAllSeen() {
        for (int d = 0; d <= SEEN_DAYS; d++) {
            if (!isSeenBehind(d)) return false;
            then.goDay();
        }
        return true;
    }

    private boolean isSeenBehind(int days) {
        for (int s = 0; s < papers.seens; s++) {
            boolean isOn = then.holder(get(papers.seenBook, s)) == ABSENT;
            boolean isSo = isOn == (get(papers.seenOn, s) != 0);
            if (get(papers.seenDays, s) == days && !isSo) return false;
        }
        return true;
    }

    /** Tries all orders; an order is a number of two bits each, so counting up meets them as rows. */
    private int bestOrder() {
        int best = ABSENT;
        int top = 0;
        for (int order = 0; order < 1 << 2 * now.readers; order++) {
            if (!isOrder(order)) continue;
            int total = totalBy(order);
            if (best == ABSENT || total > top) {
                best = order;
                top = total;
            }
        }
        return best;
    }

    private int totalBy(int order) {
        then.goBack(now);
        for (int k = 0; k < now.readers; k++) {
            then.comes(comer(order, k));
        }
        return then.total();
    }

    private boolean isOrder(int order) {
        int bits = 0;
        for (int k = 0; k < now.readers; k++) {
            bits |= 1 << comer(order, k);
        }
        return bits == (1 << now.readers) - 1;
    }

    private int comer(int order, int k) {
        return order >> 2 * (now.readers - 1 - k) & 3;
    }

    private void follow(int what, int reader) {
        switch (what) {
            case 0:
                then.comes(reader);
                break;
            case 1:
                then.bind(reader, true);
                break;
            case 2:
                then.bind(reader, false);
                break;
            default:
                then.goDay();
                break;
        }
    }

    /** READERS, BOOKS, who HAS what, DAY and the TOWN that holds. */
    private static final class World {
        private static final int R = 0, K = 1, V = 2, B = 3, T = 4, D = 5, SUBJECTS = 6;

        private final int[] thick = new int[BOOKS];
        private final int[] kind = new int[READERS];
        private final int[] v = new int[READERS];
        private final int[] has = new int[READERS];
        private final int[] rows = new int[READERS * ROW];
        // PLAIN is the same on all DAYS of one last digit, so long as THICK, v and TOWN stay.
        private final int[] plain = new int[DIGITS * READERS * BOOKS];
        private final int[] subject = new int[SUBJECTS];
        private int learned = 0;
        private int books = 0;
        private int readers = 0;
        private int day = 0;
        private int towns = 0;
        private Town town = new Town();

        private void copy(World other) {
            copyRow(other.thick, thick);
            copyRow(other.kind, kind);
            copyRow(other.v, v);
            copyRow(other.has, has);
            copyRow(other.rows, rows);
            books = other.books;
            readers = other.readers;
            day = other.day;
            towns = other.towns;
            town = other.town;
            learned = 0;
        }

        /** Undoes DAYS and comings alone, so what is learned stays good. */
        private void goBack(World other) {
            copyRow(other.has, has);
            day = other.day;
        }

        private void enter(int itsKind, int itsV) {
            put(kind, readers, itsKind);
            put(v, readers, itsV);
            put(has, readers, ABSENT);
            readers++;
        }

        private boolean isReader(int r) {
            return r >= 0 && r < readers;
        }

        private boolean isBook(int b) {
            return b >= 0 && b < books;
        }

        private int allBooks() {
            return (1 << books) - 1;
        }

        private int holder(int b) {
            for (int r = 0; r < readers && r < has.length; r++) {
                if (has[r] == b) return r;
            }
            return ABSENT;
        }

        private int shelf() {
            int bits = allBooks();
            for (int r = 0; r < readers; r++) {
                int own = get(has, r);
                if (own != ABSENT) bits &= ~(1 << own);
            }
            return bits;
        }

        private int shelfThick() {
            int sum = 0;
            for (int b = 0; b < books; b++) {
                if (holder(b) == ABSENT) sum += get(thick, b);
            }
            return sum;
        }

        private void learnAnew() {
            learned = 0;
            learn();
        }

        /** Must have run for the DAY before LIKING is asked. */
        private void learn() {
            int digit = day % DIGITS;
            if ((learned >> digit & 1) != 0) return;
            learned |= 1 << digit;
            put(subject, D, digit);
            for (int r = 0; r < readers; r++) {
                put(subject, R, r);
                put(subject, K, get(kind, r));
                put(subject, V, get(v, r));
                for (int b = 0; b < books; b++) {
                    put(subject, B, b);
                    put(subject, T, get(thick, b) / 10);
                    put(plain, (digit * READERS + r) * BOOKS + b, town.plainOf(subject));
                }
            }
        }

        private int liking(int r, int b) {
            int sum = get(plain, (day % DIGITS * READERS + r) * BOOKS + b);
            int t = get(thick, b);
            int more = get(has, r) == b ? get(v, r) : 0;
            switch (get(kind, r)) {
                case THIN:
                    return sum - t / 5;
                case WANTING:
                    return 2 * sum;
                case STILL:
                    return sum + more;
                case STEPPING:
                    return sum - t / 5 + get(v, r);
                case GLUING:
                    return 2 * sum + t / 10;
                case TOLD:
                    return sum + more + get(rows, r * ROW + t % ROW);
                default:
                    return sum;
            }
        }

        private boolean likesMost(int r, int book) {
            for (int b = 0; b < books; b++) {
                if (liking(r, b) > liking(r, book)) return false;
            }
            return true;
        }

        private int total() {
            int sum = 0;
            for (int r = 0; r < readers; r++) {
                int own = get(has, r);
                if (own != ABSENT) sum += liking(r, own);
            }
            return sum;
        }

        private boolean isThicker(int one, int other) {
            // GAP 0 still wants a thicker one.
            return one - other >= Math.max(1, town.gap);
        }

        private boolean may(int r, int b) {
            int own = get(has, r);
            return own != ABSENT && holder(b) == ABSENT && isThicker(get(thick, own), get(thick, b));
        }

        private int takeable(int r) {
            int bits = 0;
            for (int b = 0; b < books; b++) {
                if (may(r, b)) bits |= 1 << b;
            }
            return bits;
        }

        private int choice(int r) {
            int own = get(has, r);
            if (own == ABSENT) return ABSENT;
            boolean isByThick = get(kind, r) == THIN || get(kind, r) == STEPPING;
            // Whoever takes the thinnest does not ask whether that is liked more.
            int top = isByThick ? -THICKEST - 1 : liking(r, own);
            int best = ABSENT;
            for (int b = 0; b < books; b++) {
                if (!may(r, b)) continue;
                int worth = isByThick ? -get(thick, b) : liking(r, b);
                if (worth > top) {
                    top = worth;
                    best = b;
                }
            }
            return best;
        }

        private boolean rests() {
            for (int r = 0; r < readers; r++) {
                if (choice(r) != ABSENT) return false;
            }
            return true;
        }

        private boolean isStuck() {
            for (int r = 0; r < readers; r++) {
                if (takeable(r) != 0) return false;
            }
            return true;
        }

        /** One COMES: whether it took something. */
        private boolean comes(int r) {
            int chosen = choice(r);
            if (chosen == ABSENT) return false;
            put(has, r, chosen);
            return true;
        }

        /** A DAY goes: how many took something. */
        private int goDay() {
            int took = 0;
            for (int r = 0; r < readers; r++) {
                if (comes(r)) took++;
            }
            day++;
            learn();
            return took;
        }

        /** One GLUES or TEARS; who HAS none does nothing. */
        private void bind(int r, boolean isGlue) {
            int own = get(has, r);
            if (own == ABSENT) return;
            int by = isGlue ? town.paste : -town.paste;
            put(thick, own, Math.max(1, Math.min(THICKEST, get(thick, own) + by)));
            learned = 0;
            learn();
        }

        /** One HAS that BOOK, and what it HAD is where that was. */
        private void trade(int r, int b) {
            int other = holder(b);
            if (other != ABSENT) put(has, other, get(has, r));
            put(has, r, b);
        }

        private boolean wouldChange(int r, int other) {
            int own = get(has, r);
            int others = get(has, other);
            if (own == ABSENT || others == ABSENT) return false;
            return liking(r, others) > liking(r, own) && liking(other, own) > liking(other, others);
        }

        /** Who HAS what as one number: the lesser, the earlier as a row by READERS, none last. */
        private int holding() {
            int code = 0;
            for (int r = 0; r < readers; r++) {
                int own = get(has, r);
                code = code * 8 + (own == ABSENT ? BOOKS : own);
            }
            return code;
        }

        private void hold(int code) {
            for (int r = 0; r < readers; r++) {
                int own = heldIn(code, r, readers);
                put(has, r, own == BOOKS ? ABSENT : own);
            }
        }
    }

    /** What the GOES lead to from how all is, each holding by as few as can be. */
    private static final class Goes {
        private static final int CODES = 8 * 8 * 8 * 8;
        // So many ways there are for four to HAVE one each of seven; who HAS none keeps none.
        private static final int HOLDINGS = 7 * 6 * 5 * 4;

        private final int[] few = new int[CODES];
        private final int[] found = new int[HOLDINGS];
        private int many = 0;
        private int readers = 0;

        /** Leaves the world with any holding. */
        private void search(World world) {
            Arrays.fill(few, ABSENT);
            many = 0;
            readers = world.readers;
            meet(world, 0);
            for (int i = 0; i < HOLDINGS && i < many; i++) {
                int code = get(found, i);
                spread(world, code, get(few, code) + 1);
            }
        }

        private void meet(World world, int n) {
            int code = world.holding();
            if (get(few, code) != ABSENT || many >= HOLDINGS) return;
            put(few, code, n);
            put(found, many, code);
            many++;
        }

        private void spread(World world, int code, int n) {
            world.hold(code);
            for (int r = 0; r < world.readers; r++) {
                for (int b = 0; b < world.books; b++) {
                    if (world.may(r, b)) step(world, code, r, b, n);
                }
                for (int other = r + 1; other < world.readers; other++) {
                    if (world.wouldChange(r, other)) step(world, code, r, get(world.has, other), n);
                }
            }
        }

        private void step(World world, int code, int r, int b, int n) {
            world.trade(r, b);
            meet(world, n);
            world.hold(code);
        }

        private int fewest(int r, int b) {
            for (int i = 0; i < many; i++) {
                int code = get(found, i);
                if (heldIn(code, r, readers) == b) return get(few, code);
            }
            return ABSENT;
        }

        private int reached(int r) {
            int bits = 0;
            for (int i = 0; i < many; i++) {
                int own = heldIn(get(found, i), r, readers);
                if (own != BOOKS) bits |= 1 << own;
            }
            return bits;
        }

        /** The first holding of the greatest TOTAL. */
        private int best(World world) {
            int best = ABSENT;
            int top = 0;
            for (int i = 0; i < many; i++) {
                int code = get(found, i);
                world.hold(code);
                int total = world.total();
                if (best == ABSENT || total > top || total == top && code < best) {
                    best = code;
                    top = total;
                }
            }
            return best;
        }
    }

    /** A TOWN: each E as signs in the order in which they are reckoned, a TEST ahead of what joins it. */
    private static final class Town {
        private static final int NOT = -1, AND = -2, OR = -3;

        private final int[] code = new int[SIGNS];
        private final int[] worth = new int[CLAUSES];
        private final int[] end = new int[CLAUSES];
        private int size = 0;
        private int feelings = 0;
        private int gap = 1;
        private int paste = 5;

        private void write(int item) {
            put(code, size, item);
            size++;
        }

        private void endFeeling(int n) {
            put(worth, feelings, n);
            put(end, feelings, size);
            feelings++;
        }

        private int plainOf(int[] subject) {
            int sum = 0;
            int from = 0;
            for (int c = 0; c < feelings; c++) {
                int till = get(end, c);
                if (holds(from, till, subject)) sum += get(worth, c);
                from = till;
            }
            return sum;
        }

        private boolean holds(int from, int till, int[] subject) {
            // A bit for each that waits to be joined, the latest lowest: 13 by 5 open ones.
            int waiting = 0;
            for (int i = from; i < till; i++) {
                int item = get(code, i);
                if (item == NOT) {
                    waiting ^= 1;
                } else if (item == AND) {
                    waiting = waiting >> 1 & (waiting | ~1);
                } else if (item == OR) {
                    waiting = waiting >> 1 | waiting & 1;
                } else {
                    waiting = waiting << 1 | (isTrue(item, get(subject, item / 300)) ? 1 : 0);
                }
            }
            return (waiting & 1) != 0;
        }

        private static int test(int letter, int sign, int n) {
            return (letter * 3 + sign) * 100 + n;
        }

        private static boolean isTrue(int test, int value) {
            int n = test % 100;
            switch (test / 100 % 3) {
                case 0:
                    return value < n;
                case 1:
                    return value == n;
                default:
                    return value > n;
            }
        }
    }

    /** THE TAPE read as a TOWN; where it can't go on, place is the FAULT. */
    private static final class Reading {
        private static final int END = -1, OPEN = 5;
        private static final int EITHER = 0, BOTH = 1;

        private final int[] tape;
        private final int size;
        private final Town town;
        private int place = 0;
        private int number = 0;

        private Reading(int[] tape, int size, Town town) {
            this.tape = tape;
            this.size = size;
            this.town = town;
        }

        private boolean clauses() {
            for (int c = 1; c <= CLAUSES; c++) {
                if (!clause()) return false;
                if (place == size) return true;
                if (c == CLAUSES || !takes(';')) return false;
            }
            return false;
        }

        private boolean clause() {
            boolean isLove = sign() == 'l';
            if (isLove || sign() == 'b') {
                if (!word(isLove ? "love " : "bore ") || !number()) return false;
                int n = isLove ? number : -number;
                if (!takes(' ') || !joined(this, EITHER, 0)) return false;
                town.endFeeling(n);
                return true;
            }
            boolean isGap = sign() == 'g';
            if (!word(isGap ? "gap " : "paste ") || !number()) return false;
            if (isGap) {
                town.gap = number;
            } else {
                town.paste = Math.max(1, number);
            }
            return true;
        }

        /** An E (EITHER) or a T (BOTH) within so many open ! and (. */
        private static boolean joined(Reading in, int how, int open) {
            for (int i = 0; i < SIGNS; i++) {
                boolean isRead = how == EITHER ? joined(in, BOTH, open) : single(in, open);
                if (!isRead) return false;
                if (i > 0) in.town.write(how == EITHER ? Town.OR : Town.AND);
                if (!in.takes(how == EITHER ? '|' : '&')) return true;
            }
            return false;
        }

        /** An F. */
        private static boolean single(Reading in, int open) {
            int sign = in.sign();
            if (sign != '!' && sign != '(') return in.testing();
            if (open >= OPEN) return false;
            in.place++;
            if (sign == '(') return joined(in, EITHER, open + 1) && in.takes(')');
            if (!single(in, open + 1)) return false;
            in.town.write(Town.NOT);
            return true;
        }

        private boolean testing() {
            int letter = letter(sign());
            if (letter == ABSENT) return false;
            place++;
            int compare = compare(sign());
            if (compare == ABSENT) return false;
            place++;
            if (!number()) return false;
            town.write(Town.test(letter, compare, number));
            return true;
        }

        private static int letter(int sign) {
            switch (sign) {
                case 'r':
                    return World.R;
                case 'k':
                    return World.K;
                case 'v':
                    return World.V;
                case 'b':
                    return World.B;
                case 't':
                    return World.T;
                case 'd':
                    return World.D;
                default:
                    return ABSENT;
            }
        }

        private static int compare(int sign) {
            return sign >= '<' && sign <= '>' ? sign - '<' : ABSENT;
        }

        private boolean number() {
            int first = sign() - '0';
            if (first < 0 || first > 9) return false;
            place++;
            number = first;
            int second = sign() - '0';
            if (first != 0 && second >= 0 && second <= 9) {
                place++;
                number = first * 10 + second;
            }
            return true;
        }

        private boolean word(String word) {
            for (int i = 0; i < word.length(); i++) {
                if (!takes(word.charAt(i))) return false;
            }
            return true;
        }

        private boolean takes(int sign) {
            if (sign() != sign) return false;
            place++;
            return true;
        }

        private int sign() {
            return place >= 0 && place < size && place < tape.length ? tape[place] : END;
        }
    }

    /** THE TAPE and what is told by hand. */
    private static final class Papers {
        private final int[] tape = new int[SIGNS];
        private final int[] seenBook = new int[SEEN];
        private final int[] seenDays = new int[SEEN];
        private final int[] seenOn = new int[SEEN];
        private final int[] planWhat = new int[PLANS];
        private final int[] planReader = new int[PLANS];
        private final int[] noteReader = new int[NOTES];
        private final int[] noteBook = new int[NOTES];
        private int signs = 0;
        private int seens = 0;
        private int plans = 0;
        private int notes = 0;

        private void copy(Papers other) {
            copyRow(other.tape, tape);
            copyRow(other.seenBook, seenBook);
            copyRow(other.seenDays, seenDays);
            copyRow(other.seenOn, seenOn);
            copyRow(other.planWhat, planWhat);
            copyRow(other.planReader, planReader);
            copyRow(other.noteReader, noteReader);
            copyRow(other.noteBook, noteBook);
            signs = other.signs;
            seens = other.seens;
            plans = other.plans;
            notes = other.notes;
        }
    }

    /** The ACTS of one READER and THE TRACE of the latest. */
    private static final class Acts {
        private static final int READS = 0, BRINGS = 1, TELLS = 2;
        // Bodies by act and KIND; 0: that KIND has none of its own.
        private static final int[] BODIES = {
            1, 11, 0, 0, 0, 51, 0,
            2, 0, 21, 0, 0, 0, 61,
            3, 0, 0, 31, 41, 0, 0,
        };
        // No act goes deeper than seven bodies.
        private static final int DEEPEST = 20;

        private final int[] bodies = new int[KEPT_BODIES];
        private int ran = 0;
        private int reader = 0;
        private int kind = 0;
        private int v = 0;

        private int doneBy(int itsNumber, int itsKind, int itsV, int act, int x) {
            reader = itsNumber;
            kind = itsKind;
            v = itsV;
            return run(this, act, itsKind, x, 0);
        }

        /** The body of the act that stands nearest from a KIND on upwards. */
        private static int run(Acts on, int act, int from, int x, int depth) {
            if (depth > DEEPEST) return 0;
            int deeper = depth + 1;
            int body = bodyOf(act, from);
            put(on.bodies, on.ran, body);
            on.ran++;
            switch (body) {
                case 2:
                    return run(on, READS, on.kind, x, deeper) - on.v;
                case 3:
                    return run(on, BRINGS, on.kind, x, deeper) * 2;
                case 11:
                    return run(on, READS, READER, x * 3, deeper);
                case 21:
                    return -run(on, BRINGS, READER, x, deeper);
                case 31:
                    return run(on, TELLS, READER, x, deeper) ^ 7;
                case 41:
                    return run(on, TELLS, THIN, x - 1, deeper) + run(on, READS, on.kind, 2, deeper);
                case 51:
                    return run(on, READS, WANTING, x, deeper) ^ on.reader;
                case 61:
                    return run(on, BRINGS, STILL, x, deeper) + on.v;
                default:
                    return x + on.reader;
            }
        }

        private static int bodyOf(int act, int from) {
            int kind = from;
            for (int step = 0; step < KINDS && kind != READER; step++) {
                int body = get(BODIES, act * KINDS + kind);
                if (body != 0) return body;
                kind = get(ABOVE, kind);
            }
            return get(BODIES, act * KINDS);
        }
    }
}
