import java.util.ArrayDeque;
import java.util.ArrayList;
import java.util.Deque;
import java.util.List;
import java.util.function.IntSupplier;

/**
 * The document told a second time, in another way than the class does it: what WOULD BLOCK is thrown for real,
 * out of gates that are blocks of code, and THE TEXT is read by recursion. ModelTest holds the class against it.
 */
final class Model {
    static final int NONE = -1, BAD = -2, NO = -3, FULL = -4, BLOCK = -5;

    static final class WouldBlock extends RuntimeException {
        private static final long serialVersionUID = 1L;

        WouldBlock() {
            super(null, null, false, false);
        }
    }

    static final class Fault extends RuntimeException {
        private static final long serialVersionUID = 1L;
        final int place;

        Fault(int place) {
            super(null, null, false, false);
            this.place = place;
        }
    }

    static final class Gate {
        int entries, depth, deepest, thrown;

        int within(IntSupplier body) {
            entries++;
            depth++;
            if (depth > deepest) {
                deepest = depth;
            }
            try {
                return body.getAsInt();
            } catch (WouldBlock b) {
                thrown++;
                throw b;
            } finally {
                depth--;
            }
        }

        Gate copy() {
            Gate g = new Gate();
            g.entries = entries;
            g.depth = depth;
            g.deepest = deepest;
            g.thrown = thrown;
            return g;
        }
    }

    static final class Buf {
        Gate gate = new Gate();
        List<Integer> items = new ArrayList<>();
        List<Integer> queue = new ArrayList<>();
        int room = 2, ins, outs, peak, keeper = NONE, kept;

        Buf copy() {
            Buf b = new Buf();
            b.gate = gate.copy();
            b.items = new ArrayList<>(items);
            b.queue = new ArrayList<>(queue);
            b.room = room;
            b.ins = ins;
            b.outs = outs;
            b.peak = peak;
            b.keeper = keeper;
            b.kept = kept;
            return b;
        }
    }

    static final class Stat {
        int in0, in1, out, time, add, guard = NONE, phase, left, kind, made, held, starved;

        Stat copy() {
            Stat s = new Stat();
            s.in0 = in0;
            s.in1 = in1;
            s.out = out;
            s.time = time;
            s.add = add;
            s.guard = guard;
            s.phase = phase;
            s.left = left;
            s.kind = kind;
            s.made = made;
            s.held = held;
            s.starved = starved;
            return s;
        }
    }

    static final class Wish {
        final int w, b, wish, k;

        Wish(int w, int b, int wish, int k) {
            this.w = w;
            this.b = b;
            this.wish = wish;
            this.k = k;
        }
    }

    static final class All {
        List<Buf> bufs = new ArrayList<>();
        List<Stat> stats = new ArrayList<>();
        List<Wish> line = new ArrayList<>();
        int[] got = {NONE, NONE, NONE, NONE, NONE, NONE};
        Gate master = new Gate();
        int ticks, unguarded;

        static All anew(int n) {
            All a = new All();
            for (int i = 0; i < n; i++) {
                a.bufs.add(new Buf());
            }
            return a;
        }

        All copy() {
            All a = new All();
            for (Buf b : bufs) {
                a.bufs.add(b.copy());
            }
            for (Stat s : stats) {
                a.stats.add(s.copy());
            }
            a.line.addAll(line);
            a.got = got.clone();
            a.master = master.copy();
            a.ticks = ticks;
            a.unguarded = unguarded;
            return a;
        }
    }

    private All all = All.anew(3);
    private final Deque<All> states = new ArrayDeque<>();
    private final StringBuilder text = new StringBuilder();
    private final int[] refused = new int[3];

    private int refuse(int how) {
        refused[how == BAD ? 0 : how == NO ? 1 : 2]++;
        return how;
    }

    private void state() {
        states.addLast(all.copy());
        if (states.size() > 6) {
            states.removeFirst();
        }
    }

    private boolean isBuf(int b) {
        return b >= 0 && b < all.bufs.size();
    }

    private static boolean in(int v, int lo, int hi) {
        return v >= lo && v <= hi;
    }

    private boolean foreign(Buf b, int who) {
        return b.keeper != NONE && (who == NONE || b.keeper != who);
    }

    private int put(int b, int k, int who) {
        Buf x = all.bufs.get(b);
        return x.gate.within(() -> {
            if (x.items.size() >= x.room || foreign(x, who)) {
                throw new WouldBlock();
            }
            x.items.add(k);
            x.ins++;
            if (x.items.size() > x.peak) {
                x.peak = x.items.size();
            }
            return x.items.size();
        });
    }

    private int take(int b, int who) {
        Buf x = all.bufs.get(b);
        return x.gate.within(() -> {
            if (x.items.isEmpty() || foreign(x, who)) {
                throw new WouldBlock();
            }
            x.outs++;
            return x.items.remove(0);
        });
    }

    private int inBoth(int a, int b, IntSupplier body) {
        Gate lesser = all.bufs.get(a < b ? a : b).gate;
        Gate greater = all.bufs.get(a < b ? b : a).gate;
        return lesser.within(() -> greater.within(body));
    }

    /** Tells in moved[0] how many were moved, also when it throws. */
    private void move(int a, int b, int n, int[] moved) {
        inBoth(a, b, () -> {
            for (int i = 0; i < n; i++) {
                int k = take(a, NONE);
                try {
                    put(b, k, NONE);
                } catch (WouldBlock w) {
                    all.bufs.get(a).items.add(0, k);
                    throw w;
                }
                moved[0]++;
            }
            return 0;
        });
    }

    private boolean tried(Wish v) {
        try {
            if (v.wish == 0) {
                put(v.b, v.k, v.w);
            } else {
                all.got[v.w] = take(v.b, v.w);
            }
            return true;
        } catch (WouldBlock w) {
            return false;
        }
    }

    private void serving() {
        boolean again;
        do {
            again = false;
            for (Wish v : all.line) {
                if (tried(v)) {
                    all.line.remove(v);
                    again = true;
                    break;
                }
            }
        } while (again);
    }

    private int tick() {
        all.ticks++;
        int made = 0;
        for (Stat s : all.stats) {
            if (s.guard == NONE) {
                all.unguarded++;
                made += work(s);
            } else {
                made += all.bufs.get(s.guard).gate.within(() -> work(s));
            }
        }
        return made;
    }

    private int work(Stat s) {
        int made = 0;
        if (s.phase == 1 && --s.left == 0) {
            s.phase = 2;
        }
        if (s.phase == 2) {
            try {
                put(s.out, s.kind, NONE);
                s.phase = 0;
                s.made++;
                made = 1;
            } catch (WouldBlock w) {
                s.held++;
            }
        }
        if (s.phase == 0) {
            try {
                int kinds = s.in1 == NONE ? take(s.in0, NONE) : inBoth(s.in0, s.in1, () -> takeBoth(s));
                s.phase = 1;
                s.left = s.time;
                s.kind = (kinds + s.add) % 10;
            } catch (WouldBlock w) {
                s.starved++;
            }
        }
        return made;
    }

    private int takeBoth(Stat s) {
        Buf x = all.bufs.get(s.in0);
        Buf y = all.bufs.get(s.in1);
        boolean enough = x == y ? x.items.size() >= 2 : !x.items.isEmpty() && !y.items.isEmpty();
        if (!enough || x.keeper != NONE || y.keeper != NONE) {
            throw new WouldBlock();
        }
        x.outs++;
        y.outs++;
        return x.items.remove(0) + y.items.remove(0);
    }

    int begins(int n) {
        if (!in(n, 1, 6)) {
            return refuse(BAD);
        }
        state();
        int was = all.bufs.size();
        all = All.anew(n);
        return was;
    }

    int rooms(int b, int v) {
        if (!isBuf(b) || !in(v, 1, 6)) {
            return refuse(BAD);
        }
        state();
        int was = all.bufs.get(b).room;
        all.bufs.get(b).room = v;
        serving();
        return was;
    }

    int station(int in0, int in1, int out, int time, int add) {
        if (!isBuf(in0) || !(in1 == NONE || isBuf(in1)) || !isBuf(out) || !in(time, 1, 9) || !in(add, 0, 9)) {
            return refuse(BAD);
        }
        if (all.stats.size() == 6) {
            return refuse(FULL);
        }
        state();
        Stat s = new Stat();
        s.in0 = in0;
        s.in1 = in1;
        s.out = out;
        s.time = time;
        s.add = add;
        all.stats.add(s);
        return all.stats.size() - 1;
    }

    int guards(int s, int b) {
        if (!in(s, 0, all.stats.size() - 1) || !(b == NONE || isBuf(b))) {
            return refuse(BAD);
        }
        state();
        int was = all.stats.get(s).guard;
        all.stats.get(s).guard = b;
        return was;
    }

    int ticks(int n) {
        if (!in(n, 1, 30)) {
            return refuse(BAD);
        }
        state();
        int made = 0;
        for (int i = 0; i < n; i++) {
            made += tick();
            serving();
        }
        return made;
    }

    int puts(int b, int k) {
        if (!isBuf(b) || !in(k, 0, 9)) {
            return refuse(BAD);
        }
        state();
        int answer;
        try {
            answer = put(b, k, NONE);
        } catch (WouldBlock w) {
            answer = BLOCK;
        }
        serving();
        return answer;
    }

    int takes(int b) {
        if (!isBuf(b)) {
            return refuse(BAD);
        }
        state();
        int answer;
        try {
            answer = take(b, NONE);
        } catch (WouldBlock w) {
            answer = BLOCK;
        }
        serving();
        return answer;
    }

    int moves(int a, int b, int n, int undo) {
        if (!isBuf(a) || !isBuf(b) || a == b || !in(n, 1, 9) || !in(undo, 0, 1)) {
            return refuse(BAD);
        }
        state();
        List<Integer> wasA = new ArrayList<>(all.bufs.get(a).items);
        List<Integer> wasB = new ArrayList<>(all.bufs.get(b).items);
        int[] moved = {0};
        int answer = n;
        try {
            move(a, b, n, moved);
        } catch (WouldBlock w) {
            answer = -100 - moved[0];
            if (undo == 1) {
                all.bufs.get(a).items = wasA;
                all.bufs.get(b).items = wasB;
                answer = -100;
            }
        }
        serving();
        return answer;
    }

    private Wish wishOf(int w) {
        for (Wish v : all.line) {
            if (v.w == w) {
                return v;
            }
        }
        return null;
    }

    int asks(int w, int b, int wish, int k) {
        if (!in(w, 0, 5) || !isBuf(b) || !in(wish, 0, 1) || !in(k, 0, 9)) {
            return refuse(BAD);
        }
        if (wishOf(w) != null) {
            return refuse(NO);
        }
        state();
        Wish v = new Wish(w, b, wish, k);
        boolean done = tried(v);
        if (!done) {
            all.line.add(v);
        }
        serving();
        return done ? 1 : 0;
    }

    int cancels(int w) {
        if (!in(w, 0, 5)) {
            return refuse(BAD);
        }
        Wish v = wishOf(w);
        if (v == null) {
            return refuse(NO);
        }
        state();
        all.line.remove(v);
        return all.line.size();
    }

    private int queueOf(int w) {
        for (int b = 0; b < all.bufs.size(); b++) {
            if (all.bufs.get(b).queue.contains(w)) {
                return b;
            }
        }
        return NONE;
    }

    int keeps(int w, int b) {
        if (!in(w, 0, 5) || !isBuf(b)) {
            return refuse(BAD);
        }
        if (queueOf(w) != NONE) {
            return refuse(NO);
        }
        state();
        Buf x = all.bufs.get(b);
        return x.gate.within(() -> {
            if (x.keeper != NONE && x.keeper != w) {
                x.queue.add(w);
                return BLOCK;
            }
            x.keeper = w;
            return ++x.kept;
        });
    }

    int lets(int w, int b) {
        if (!in(w, 0, 5) || !isBuf(b)) {
            return refuse(BAD);
        }
        Buf x = all.bufs.get(b);
        if (x.keeper != w) {
            return refuse(NO);
        }
        state();
        int yet = x.gate.within(() -> {
            int left = --x.kept;
            if (left == 0) {
                if (x.queue.isEmpty()) {
                    x.keeper = NONE;
                } else {
                    x.keeper = x.queue.remove(0);
                    x.kept = 1;
                }
            }
            return left;
        });
        serving();
        return yet;
    }

    int quits(int w) {
        if (!in(w, 0, 5)) {
            return refuse(BAD);
        }
        int b = queueOf(w);
        if (b == NONE) {
            return refuse(NO);
        }
        state();
        all.bufs.get(b).queue.remove(Integer.valueOf(w));
        return b;
    }

    int keeper(int b, int what) {
        if (!isBuf(b) || !in(what, 0, 2)) {
            return refuse(BAD);
        }
        Buf x = all.bufs.get(b);
        return new int[] {x.keeper, x.kept, x.queue.size()}[what];
    }

    private static int nth(List<Integer> row, int i) {
        return i < row.size() ? row.get(i) : NONE;
    }

    int queue(int b, int i) {
        return !isBuf(b) || i < 0 ? refuse(BAD) : nth(all.bufs.get(b).queue, i);
    }

    int stuck() {
        int bits = 0;
        for (int w = 0; w < 6; w++) {
            List<Integer> seen = new ArrayList<>();
            int at = w;
            while (at != NONE && !seen.contains(at)) {
                seen.add(at);
                int b = queueOf(at);
                at = b == NONE ? NONE : all.bufs.get(b).keeper;
            }
            if (at == w) {
                bits += 1 << w;
            }
        }
        return bits;
    }

    int buffer(int b, int what) {
        if (!isBuf(b) || !in(what, 0, 7)) {
            return refuse(BAD);
        }
        Buf x = all.bufs.get(b);
        return new int[] {x.items.size(), x.room, x.ins, x.outs, x.peak,
            x.gate.entries, x.gate.thrown, x.gate.deepest}[what];
    }

    int item(int b, int i) {
        return !isBuf(b) || i < 0 ? refuse(BAD) : nth(all.bufs.get(b).items, i);
    }

    int of(int s, int what) {
        if (!in(s, 0, all.stats.size() - 1) || !in(what, 0, 6)) {
            return refuse(BAD);
        }
        Stat x = all.stats.get(s);
        return new int[] {x.phase, x.phase == 1 ? x.left : 0, x.phase == 0 ? NONE : x.kind,
            x.made, x.held, x.starved, x.guard}[what];
    }

    int worker(int w, int what) {
        if (!in(w, 0, 5) || !in(what, 0, 4)) {
            return refuse(BAD);
        }
        Wish v = wishOf(w);
        if (v == null) {
            return new int[] {0, NONE, NONE, NONE, all.got[w]}[what];
        }
        return new int[] {1, v.b, v.wish, v.wish == 0 ? v.k : NONE, all.got[w]}[what];
    }

    int line(int i) {
        if (i < 0) {
            return refuse(BAD);
        }
        return i < all.line.size() ? all.line.get(i).w : NONE;
    }

    int works(int what) {
        if (!in(what, 0, 9)) {
            return refuse(BAD);
        }
        int items = 0;
        int entries = all.master.entries;
        for (Buf b : all.bufs) {
            items += b.items.size();
            entries += b.gate.entries;
        }
        return new int[] {all.bufs.size(), all.stats.size(), all.ticks, all.unguarded, all.master.entries,
            all.master.thrown, all.master.deepest, items, entries, all.line.size()}[what];
    }

    int type(int c) {
        if (!in(c, 0, 127)) {
            return refuse(BAD);
        }
        if (text.length() == 120) {
            return refuse(FULL);
        }
        text.append((char) c);
        return text.length();
    }

    int clear() {
        int had = text.length();
        text.setLength(0);
        return had;
    }

    // ---- THE TEXT: first made a tree (or a FAULT), then done

    private static final class Order {
        char letter;
        int[] figures;
        List<Order> group;
    }

    private int at;

    private boolean more() {
        while (at < text.length() && text.charAt(at) == ' ') {
            at++;
        }
        return at < text.length();
    }

    private int figure() {
        if (!more()) {
            throw new Fault(text.length());
        }
        char c = text.charAt(at);
        if (c < '0' || c > '9') {
            throw new Fault(at);
        }
        at++;
        return c - '0';
    }

    private Order order(int depth) {
        Order o = new Order();
        o.letter = text.charAt(at);
        int figures = "ptm(".indexOf(o.letter) < 0 ? -1 : new int[] {2, 1, 3, 0}["ptm(".indexOf(o.letter)];
        if (figures < 0 || o.letter == '(' && depth == 4) {
            throw new Fault(at);
        }
        at++;
        o.figures = new int[figures];
        for (int i = 0; i < figures; i++) {
            o.figures[i] = figure();
        }
        if (o.letter == '(') {
            o.group = new ArrayList<>();
            while (more() && text.charAt(at) != ')') {
                o.group.add(order(depth + 1));
            }
            if (!more()) {
                throw new Fault(text.length());
            }
            at++;
        }
        return o;
    }

    private List<Order> parsed() {
        at = 0;
        List<Order> orders = new ArrayList<>();
        while (more()) {
            orders.add(order(0));
        }
        if (orders.isEmpty()) {
            throw new Fault(text.length());
        }
        return orders;
    }

    private int cameTo;

    private int doAll(List<Order> orders) {
        List<List<Integer>> ahead = new ArrayList<>();
        for (Buf b : all.bufs) {
            ahead.add(new ArrayList<>(b.items));
        }
        try {
            return all.master.within(() -> {
                int done = 0;
                for (Order o : orders) {
                    done += o.group == null ? doOne(o) : doGroup(o);
                }
                return done;
            });
        } catch (WouldBlock w) {
            for (int b = 0; b < ahead.size(); b++) {
                all.bufs.get(b).items = ahead.get(b);
            }
            throw w;
        }
    }

    private int doGroup(Order o) {
        try {
            return doAll(o.group);
        } catch (WouldBlock w) {
            return 0;
        }
    }

    private int doOne(Order o) {
        cameTo++;
        int[] f = o.figures;
        if (!isBuf(f[0]) || o.letter == 'm' && (!isBuf(f[1]) || f[0] == f[1])) {
            throw new WouldBlock();
        }
        if (o.letter == 'p') {
            put(f[0], f[1], NONE);
        } else if (o.letter == 't') {
            take(f[0], NONE);
        } else {
            move(f[0], f[1], f[2], new int[1]);
        }
        return 1;
    }

    int does() {
        List<Order> orders;
        try {
            orders = parsed();
        } catch (Fault f) {
            return -10 - f.place;
        }
        state();
        cameTo = 0;
        int answer;
        try {
            answer = doAll(orders);
        } catch (WouldBlock w) {
            answer = -1000 - (cameTo - 1);
        }
        serving();
        return answer;
    }

    int back() {
        if (states.isEmpty()) {
            return refuse(NO);
        }
        all = states.removeLast();
        return states.size();
    }

    int told(int what) {
        if (!in(what, 0, 4)) {
            return refuse(BAD);
        }
        return new int[] {refused[0], refused[1], refused[2], text.length(), states.size()}[what];
    }

    private long h;

    private void mix(int v) {
        h = 31 * h + v;
    }

    long digest() {
        h = 1932;
        for (int i = 0; i < 5; i++) {
            mix(told(i));
        }
        for (int i = 0; i < 10; i++) {
            mix(works(i));
        }
        for (int b = 0; b < all.bufs.size(); b++) {
            for (int i = 0; i < 8; i++) {
                mix(buffer(b, i));
            }
            all.bufs.get(b).items.forEach(this::mix);
            for (int i = 0; i < 3; i++) {
                mix(keeper(b, i));
            }
            all.bufs.get(b).queue.forEach(this::mix);
        }
        for (int s = 0; s < all.stats.size(); s++) {
            for (int i = 0; i < 7; i++) {
                mix(of(s, i));
            }
        }
        for (int w = 0; w < 6; w++) {
            for (int i = 0; i < 5; i++) {
                mix(worker(w, i));
            }
        }
        for (Wish v : all.line) {
            mix(v.w);
        }
        mix(stuck());
        return h;
    }
}
