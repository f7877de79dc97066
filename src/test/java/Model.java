import java.util.ArrayDeque;
import java.util.ArrayList;
import java.util.Arrays;
import java.util.Collections;
import java.util.HashMap;
import java.util.LinkedHashMap;
import java.util.List;
import java.util.Map;
import java.util.function.Predicate;

/** The document once more, written as plainly and slowly as can be, to hold the class against. */
final class Model {
    static final int NONE = -1, BAD = -2, STATE = -3, FULL = -4;
    static final long NO = Long.MIN_VALUE;

    private static final class Reader {
        int kind;
        int v;
        Integer has;
        int[] row = new int[4];

        Reader copy() {
            Reader to = new Reader();
            to.kind = kind;
            to.v = v;
            to.has = has;
            to.row = row.clone();
            return to;
        }
    }

    private static final class State {
        List<Integer> books = new ArrayList<>();
        List<Reader> readers = new ArrayList<>();
        List<String> towns = new ArrayList<>();
        String tape = "";
        int day = 0;
        List<int[]> seen = new ArrayList<>();
        List<int[]> plan = new ArrayList<>();
        List<int[]> notes = new ArrayList<>();

        State copy() {
            State to = new State();
            to.books.addAll(books);
            for (Reader r : readers) {
                to.readers.add(r.copy());
            }
            to.towns.addAll(towns);
            to.tape = tape;
            to.day = day;
            to.seen.addAll(seen);
            to.plan.addAll(plan);
            to.notes.addAll(notes);
            return to;
        }

        TownText town() {
            return TOWNS.computeIfAbsent(towns.isEmpty() ? "" : towns.get(towns.size() - 1), TownText::new);
        }

        boolean isReader(int r) {
            return r >= 0 && r < readers.size();
        }

        boolean isBook(int b) {
            return b >= 0 && b < books.size();
        }

        Integer holder(int b) {
            for (int r = 0; r < readers.size(); r++) {
                if (readers.get(r).has != null && readers.get(r).has == b) return r;
            }
            return null;
        }

        int plain(int r, int b) {
            Reader one = readers.get(r);
            return town().plain(r, one.kind, one.v, b, books.get(b) / 10, day % 10);
        }

        int liking(int r, int b) {
            Reader one = readers.get(r);
            int thick = books.get(b);
            int own = one.has != null && one.has == b ? one.v : 0;
            int[] all = {
                plain(r, b),
                plain(r, b) - thick / 5,
                2 * plain(r, b),
                plain(r, b) + own,
                plain(r, b) - thick / 5 + one.v,
                2 * plain(r, b) + thick / 10,
                plain(r, b) + own + one.row[thick % 4],
            };
            return all[one.kind];
        }

        boolean thicker(int one, int other) {
            return one > other && one - other >= town().gap;
        }

        List<Integer> may(int r) {
            List<Integer> list = new ArrayList<>();
            if (readers.get(r).has == null) return list;
            for (int b = 0; b < books.size(); b++) {
                if (holder(b) == null && thicker(books.get(readers.get(r).has), books.get(b))) list.add(b);
            }
            return list;
        }

        Integer choice(int r) {
            List<Integer> list = may(r);
            if (list.isEmpty()) return null;
            int kind = readers.get(r).kind;
            Integer best = list.get(0);
            for (int b : list) {
                if (kind == 1 || kind == 4 ? books.get(b) < books.get(best) : liking(r, b) > liking(r, best)) best = b;
            }
            if (kind == 1 || kind == 4) return best;
            return liking(r, best) > liking(r, readers.get(r).has) ? best : null;
        }

        boolean comes(int r) {
            Integer chosen = choice(r);
            if (chosen != null) readers.get(r).has = chosen;
            return chosen != null;
        }

        int day() {
            int took = 0;
            for (int r = 0; r < readers.size(); r++) {
                took += comes(r) ? 1 : 0;
            }
            day++;
            return took;
        }

        int days(int n) {
            int took = 0;
            for (int d = 0; d < n; d++) {
                took += day();
            }
            return took;
        }

        void bind(int r, boolean glue) {
            Integer own = readers.get(r).has;
            if (own == null) return;
            int thick = books.get(own) + (glue ? town().paste : -town().paste);
            books.set(own, thick > 99 ? 99 : thick < 1 ? 1 : thick);
        }

        int total() {
            int sum = 0;
            for (int r = 0; r < readers.size(); r++) {
                if (readers.get(r).has != null) sum += liking(r, readers.get(r).has);
            }
            return sum;
        }

        int shelf() {
            int bits = 0;
            for (int b = 0; b < books.size(); b++) {
                if (holder(b) == null) bits += 1 << b;
            }
            return bits;
        }

        int shelfThick() {
            int sum = 0;
            for (int b = 0; b < books.size(); b++) {
                if (holder(b) == null) sum += books.get(b);
            }
            return sum;
        }

        /** 9 for none, so that it comes last. */
        List<Integer> row() {
            List<Integer> row = new ArrayList<>();
            for (Reader r : readers) {
                row.add(r.has == null ? 9 : r.has);
            }
            return row;
        }

        boolean allSeen() {
            for (int[] s : seen) {
                State later = copy();
                later.days(s[1]);
                if ((later.holder(s[0]) == null) != (s[2] == 1)) return false;
            }
            return true;
        }

        List<State> goes() {
            List<State> list = new ArrayList<>();
            for (int r = 0; r < readers.size(); r++) {
                for (int b : may(r)) {
                    State next = copy();
                    next.readers.get(r).has = b;
                    list.add(next);
                }
                for (int o = 0; o < r; o++) {
                    Integer a = readers.get(r).has;
                    Integer b = readers.get(o).has;
                    if (a == null || b == null || liking(r, b) <= liking(r, a) || liking(o, a) <= liking(o, b)) continue;
                    State next = copy();
                    next.readers.get(r).has = b;
                    next.readers.get(o).has = a;
                    list.add(next);
                }
            }
            return list;
        }

        Map<List<Integer>, State> statesReached(Map<List<Integer>, Integer> few) {
            Map<List<Integer>, State> met = new LinkedHashMap<>();
            ArrayDeque<State> queue = new ArrayDeque<>();
            queue.add(this);
            met.put(row(), this);
            few.put(row(), 0);
            while (!queue.isEmpty()) {
                State from = queue.remove();
                for (State next : from.goes()) {
                    if (met.putIfAbsent(next.row(), next) != null) continue;
                    few.put(next.row(), few.get(from.row()) + 1);
                    queue.add(next);
                }
            }
            return met;
        }
    }

    private static final Map<String, TownText> TOWNS = new HashMap<>();

    private State now = new State();
    private State image = null;
    private List<Integer> trace = new ArrayList<>();

    private static int or5(Integer n) {
        return n == null ? -5 : n;
    }

    int feed(int sign) {
        if (sign < 0 || sign > 127) return BAD;
        if (now.tape.length() == 100) return FULL;
        now.tape += (char) sign;
        return now.tape.length();
    }

    int town() {
        if (now.towns.size() == 5) return FULL;
        String text = now.tape;
        now.tape = "";
        int fault = TownText.fault(text);
        if (fault >= 0) return -10 - fault;
        now.towns.add(text);
        return now.towns.size() - 1;
    }

    int book(int thick) {
        if (thick < 1 || thick > 99) return BAD;
        if (now.books.size() == 7) return FULL;
        now.books.add(thick);
        return now.books.size() - 1;
    }

    int reader(int kind, int v) {
        if (kind < 0 || kind > 6) return NONE;
        if (v < 0 || v > 9) return BAD;
        if (now.readers.size() == 4) return FULL;
        Reader r = new Reader();
        r.kind = kind;
        r.v = v;
        now.readers.add(r);
        return now.readers.size() - 1;
    }

    int of(int reader, int what) {
        if (!now.isReader(reader) || what < 0 || what > 4) return NONE;
        Reader r = now.readers.get(reader);
        if (what == 0) return r.kind;
        if (what == 1) return r.v;
        if (what == 2) return or5(r.has);
        if (what == 3) return or5(now.choice(reader));
        return now.may(reader).stream().mapToInt(b -> 1 << b).sum();
    }

    int likes(int reader, int book) {
        return now.isReader(reader) && now.isBook(book) ? now.liking(reader, book) : -10001;
    }

    int at(int book, int what) {
        if (!now.isBook(book) || what < 0 || what > 1) return NONE;
        return what == 0 ? now.books.get(book) : or5(now.holder(book));
    }

    int row(int reader, int k, int n) {
        if (!now.isReader(reader) || k < 0 || k > 3) return NONE;
        if (n < 0 || n > 9) return BAD;
        if (now.readers.get(reader).kind != 6) return STATE;
        int was = now.readers.get(reader).row[k];
        now.readers.get(reader).row[k] = n;
        return was;
    }

    int lend(int reader, int book) {
        if (!now.isReader(reader) || book != -1 && !now.isBook(book)) return NONE;
        if (book >= 0 && now.holder(book) != null && now.holder(book) != reader) return STATE;
        int had = or5(now.readers.get(reader).has);
        now.readers.get(reader).has = book < 0 ? null : (Integer) book;
        return had;
    }

    int told(int what) {
        if (what == 0) return now.day;
        if (what == 1) return now.town().gap;
        if (what == 2) return now.town().paste;
        if (what == 3) return now.total();
        return what == 4 ? now.shelf() : NONE;
    }

    int come(int reader) {
        if (!now.isReader(reader)) return NONE;
        now.comes(reader);
        return or5(now.readers.get(reader).has);
    }

    int paste(int reader, boolean is) {
        if (!now.isReader(reader)) return NONE;
        if (now.readers.get(reader).has == null) return STATE;
        now.bind(reader, is);
        return now.books.get(now.readers.get(reader).has);
    }

    int pass(int n) {
        if (n < 0 || n > 40) return BAD;
        if (now.day + n > 9999) return STATE;
        now.days(n);
        return now.day;
    }

    private boolean isWhat(int what) {
        return what == 0 || what == 1 || what >= 10 && now.isReader(what - 10);
    }

    int on(int n, int what) {
        if (!isWhat(what)) return -10001;
        if (n < 0 || n > 40) return -10002;
        State later = now.copy();
        int took = later.days(n);
        if (what == 0) return took;
        return what == 1 ? later.total() : or5(later.readers.get(what - 10).has);
    }

    int until(int what) {
        if (what < 0 || what > 1) return NONE;
        for (int d = 0; d <= 40; d++) {
            State later = now.copy();
            later.days(d);
            boolean is = true;
            for (int r = 0; r < later.readers.size(); r++) {
                is &= what == 0 ? later.choice(r) == null : later.may(r).isEmpty();
            }
            if (is) return d;
        }
        return -5;
    }

    private int few(Map<List<Integer>, Integer> few, int reader, int book) {
        int least = -5;
        for (Map.Entry<List<Integer>, Integer> e : few.entrySet()) {
            if (e.getKey().get(reader) == book && (least < 0 || e.getValue() < least)) least = e.getValue();
        }
        return least;
    }

    int few(int reader, int book) {
        if (!now.isReader(reader) || !now.isBook(book)) return NONE;
        Map<List<Integer>, Integer> few = new HashMap<>();
        now.copy().statesReached(few);
        return few(few, reader, book);
    }

    int reach(int reader) {
        if (!now.isReader(reader)) return NONE;
        Map<List<Integer>, Integer> few = new HashMap<>();
        now.copy().statesReached(few);
        int bits = 0;
        for (int b = 0; b < now.books.size(); b++) {
            if (few(few, reader, b) >= 0) bits |= 1 << b;
        }
        return bits;
    }

    int never() {
        Map<List<Integer>, Integer> few = new HashMap<>();
        now.copy().statesReached(few);
        int bits = 0;
        for (int b = 0; b < now.books.size(); b++) {
            boolean any = false;
            for (int r = 0; r < now.readers.size(); r++) {
                any |= few(few, r, b) >= 0;
            }
            if (!any) bits |= 1 << b;
        }
        return bits;
    }

    int most(int what) {
        if (!isWhat(what)) return -10001;
        Map<List<Integer>, Integer> few = new HashMap<>();
        Map<List<Integer>, State> met = now.copy().statesReached(few);
        List<List<Integer>> rows = new ArrayList<>(met.keySet());
        rows.sort((a, b) -> {
            int totals = Integer.compare(met.get(b).total(), met.get(a).total());
            return totals != 0 ? totals : a.toString().compareTo(b.toString());
        });
        List<Integer> best = rows.get(0);
        if (what == 0) return met.get(best).total();
        if (what == 1) return few.get(best);
        return best.get(what - 10) == 9 ? -5 : best.get(what - 10);
    }

    private static void orders(List<Integer> left, List<Integer> done, List<List<Integer>> all) {
        if (left.isEmpty()) all.add(new ArrayList<>(done));
        for (Integer r : left) {
            List<Integer> rest = new ArrayList<>(left);
            rest.remove(r);
            done.add(r);
            orders(rest, done, all);
            done.remove(r);
        }
    }

    int order(int k) {
        if (k < -1 || k > 3) return -10001;
        List<Integer> left = new ArrayList<>();
        for (int r = 0; r < now.readers.size(); r++) {
            left.add(r);
        }
        List<List<Integer>> all = new ArrayList<>();
        orders(left, new ArrayList<>(), all);
        List<Integer> totals = new ArrayList<>();
        for (List<Integer> order : all) {
            State then = now.copy();
            order.forEach(then::comes);
            totals.add(then.total());
        }
        int top = Collections.max(totals);
        List<Integer> best = all.get(totals.indexOf(top));
        if (k == -1) return top;
        return k < best.size() ? best.get(k) : -5;
    }

    private static int times(State from, int who, boolean glue, Predicate<State> until) {
        State then = from.copy();
        for (int n = 0; n <= 20; n++) {
            if (until.test(then)) return n;
            then.bind(who, glue);
        }
        return -5;
    }

    int glues(int reader, int book) {
        if (!now.isReader(reader) || !now.isBook(book)) return NONE;
        return times(now, reader, true, w -> w.may(reader).contains(book));
    }

    int tears(int reader, int other) {
        if (!now.isReader(reader) || !now.isReader(other)) return NONE;
        if (reader == other) return BAD;
        Integer torn = now.readers.get(reader).has;
        if (torn == null || now.readers.get(other).has == null) return -5;
        return times(now, reader, false, w -> {
            State laid = w.copy();
            laid.readers.get(reader).has = null;
            return laid.may(other).contains(torn);
        });
    }

    int wanted(int book) {
        if (!now.isBook(book)) return NONE;
        int bits = 0;
        for (int r = 0; r < now.readers.size(); r++) {
            int most = Integer.MIN_VALUE;
            for (int b = 0; b < now.books.size(); b++) {
                most = Math.max(most, now.liking(r, b));
            }
            if (now.liking(r, book) == most) bits |= 1 << r;
        }
        return bits;
    }

    int swells(int n) {
        if (n < 0 || n > 40) return -10002;
        State later = now.copy();
        later.days(n);
        return later.shelfThick() - now.shelfThick();
    }

    int see(int book, int days, boolean isOn) {
        if (book == -1) {
            now.seen.clear();
            return 0;
        }
        if (!now.isBook(book)) return NONE;
        if (days < 0 || days > 20) return BAD;
        if (now.seen.size() == 6) return FULL;
        now.seen.add(new int[] {book, days, isOn ? 1 : 0});
        return now.seen.size();
    }

    int had(int reader) {
        if (!now.isReader(reader)) return NONE;
        int bits = 0;
        for (int b = 0; b < now.books.size(); b++) {
            State then = now.copy();
            Integer own = then.readers.get(reader).has;
            Integer holder = then.holder(b);
            if (holder != null) then.readers.get(holder).has = own;
            then.readers.get(reader).has = b;
            if (then.allSeen()) bits |= 1 << b;
        }
        return bits;
    }

    int firm(int reader, int what) {
        if (!now.isReader(reader) || what < 0 || what > 1) return NONE;
        List<Integer> good = new ArrayList<>();
        for (int v = 0; v <= 9; v++) {
            State then = now.copy();
            then.readers.get(reader).v = v;
            if (then.allSeen()) good.add(v);
        }
        if (what == 0) return good.size();
        return good.isEmpty() ? -5 : good.get(0);
    }

    private static long fraction(int above, int below, int part) {
        for (int d = Math.max(above, below); d > 1; d--) {
            if (above % d == 0 && below % d == 0) return fraction(above / d, below / d, part);
        }
        return part == 0 ? above : below;
    }

    long odds(int book, int part) {
        if (!now.isBook(book) || part < 0 || part > 1 || now.readers.isEmpty()) return NO;
        int times = 0;
        for (int r = 0; r < now.readers.size(); r++) {
            State then = now.copy();
            then.comes(r);
            if (then.holder(book) == null) times++;
        }
        return fraction(times, now.readers.size(), part);
    }

    long mean(int n, int part) {
        if (n < 0 || n > 40 || part < 0 || part > 1) return NO;
        State later = now.copy();
        later.days(n);
        if (later.shelf() == 0) return NO;
        return fraction(later.shelfThick(), Integer.bitCount(later.shelf()), part);
    }

    int plan(int what, int reader) {
        if (what == -1) {
            now.plan.clear();
            return 0;
        }
        if (what < 0 || what > 3) return NONE;
        if (what < 3 && !now.isReader(reader)) return NONE;
        if (now.plan.size() == 8) return FULL;
        now.plan.add(new int[] {what, reader});
        return now.plan.size();
    }

    int done(int what) {
        if (what < 0 || what > 1) return -10001;
        State then = now.copy();
        for (int[] p : now.plan) {
            if (p[0] == 0) then.comes(p[1]);
            if (p[0] == 1) then.bind(p[1], true);
            if (p[0] == 2) then.bind(p[1], false);
            if (p[0] == 3) then.day();
        }
        return what == 0 ? then.total() : then.shelf();
    }

    int note(int reader, int book) {
        if (reader == -1) {
            now.notes.clear();
            return 0;
        }
        if (!now.isReader(reader) || !now.isBook(book)) return NONE;
        if (now.notes.size() == 8) return FULL;
        now.notes.add(new int[] {reader, book});
        return now.notes.size();
    }

    int looked() {
        for (int n = 0; n < now.notes.size(); n++) {
            int[] note = now.notes.get(n);
            if (or5(now.readers.get(note[0]).has) != note[1]) return n;
        }
        return -5;
    }

    // The ACTS as Java's own kinds under kinds would do them.

    private class Acting {
        final int i;
        final int v;

        Acting(int i, int v) {
            this.i = i;
            this.v = v;
        }

        int reads(int x) {
            trace.add(1);
            return x + i;
        }

        int brings(int x) {
            trace.add(2);
            return reads(x) - v;
        }

        int tells(int x) {
            trace.add(3);
            return brings(x) * 2;
        }
    }

    private class ThinActing extends Acting {
        ThinActing(int i, int v) {
            super(i, v);
        }

        @Override
        int reads(int x) {
            trace.add(11);
            return super.reads(x * 3);
        }
    }

    private class WantingActing extends Acting {
        WantingActing(int i, int v) {
            super(i, v);
        }

        @Override
        int brings(int x) {
            trace.add(21);
            return -super.brings(x);
        }
    }

    private class StillActing extends Acting {
        StillActing(int i, int v) {
            super(i, v);
        }

        @Override
        int tells(int x) {
            trace.add(31);
            return super.tells(x) ^ 7;
        }
    }

    private final class SteppingActing extends ThinActing {
        SteppingActing(int i, int v) {
            super(i, v);
        }

        @Override
        int tells(int x) {
            trace.add(41);
            return super.tells(x - 1) + reads(2);
        }
    }

    private final class GluingActing extends WantingActing {
        GluingActing(int i, int v) {
            super(i, v);
        }

        @Override
        int reads(int x) {
            trace.add(51);
            return super.reads(x) ^ i;
        }
    }

    private final class ToldActing extends StillActing {
        ToldActing(int i, int v) {
            super(i, v);
        }

        @Override
        int brings(int x) {
            trace.add(61);
            return super.brings(x) + v;
        }
    }

    private Acting acting(int i) {
        int v = now.readers.get(i).v;
        switch (now.readers.get(i).kind) {
            case 1:
                return new ThinActing(i, v);
            case 2:
                return new WantingActing(i, v);
            case 3:
                return new StillActing(i, v);
            case 4:
                return new SteppingActing(i, v);
            case 5:
                return new GluingActing(i, v);
            case 6:
                return new ToldActing(i, v);
            default:
                return new Acting(i, v);
        }
    }

    int act(int reader, int act, int x) {
        trace.clear();
        if (!now.isReader(reader) || act < 0 || act > 2) return 0;
        Acting one = acting(reader);
        return act == 0 ? one.reads(x) : act == 1 ? one.brings(x) : one.tells(x);
    }

    int trace(int i) {
        return i < 0 || i >= trace.size() || i >= 20 ? NONE : trace.get(i);
    }

    int as(int reader, int k) {
        if (!now.isReader(reader) || k < 0 || k > 6) return NONE;
        Class<?>[] kinds = {
            Acting.class, ThinActing.class, WantingActing.class, StillActing.class,
            SteppingActing.class, GluingActing.class, ToldActing.class,
        };
        return kinds[k].isInstance(acting(reader)) ? now.readers.get(reader).v : -6;
    }

    int image() {
        image = now.copy();
        return now.readers.size();
    }

    int undo() {
        if (image == null) return STATE;
        now = image.copy();
        return now.readers.size();
    }

    int count(int what) {
        List<Integer> all = Arrays.asList(now.readers.size(), now.books.size(), now.towns.size(), now.seen.size(),
            now.plan.size(), now.notes.size(), now.tape.length(), trace.size());
        return what < 0 || what > 7 ? NONE : all.get(what);
    }
}
