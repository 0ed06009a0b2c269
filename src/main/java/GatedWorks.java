/** Works of buffers and stations behind gates. The document's words in capitals are kept in the comments. */
public final class GatedWorks {
    public static final int NONE = -1, BAD = -2, NO = -3, FULL = -4, BLOCK = -5;

    private static final int MOST_BUFFERS = 6;
    private static final int FIRST_BUFFERS = 3;
    private static final int MOST_ROOM = 6;
    private static final int FIRST_ROOM = 2;
    private static final int MOST_KIND = 9;
    private static final int KINDS = 10;
    private static final int MOST_STATIONS = 6;
    private static final int MOST_TIME = 9;
    private static final int MOST_TICKS = 30;
    private static final int MOST_MOVED = 9;
    private static final int WORKERS = 6;
    private static final int MOST_STATES = 6;
    private static final int MOST_BYTES = 120;
    private static final int MOST_BYTE = 127;
    private static final int MOST_GROUPS = 4;
    private static final int ROW_PLACES = 6;

    private static final int IDLE = 0;
    private static final int BUSY = 1;
    private static final int DONE = 2;
    private static final int WISH_PUT = 0;
    private static final int WISH_TAKE = 1;

    private static final int MOVE_ENDED = -100;
    private static final int TEXT_ENDED = -1000;
    private static final int TEXT_FAULT = -10;

    private static final int TOLD_WHATS = 5;
    private static final int WORKS_WHATS = 10;
    private static final int BUFFER_WHATS = 8;
    private static final int KEEPER_WHATS = 3;
    private static final int STATION_WHATS = 7;
    private static final int WORKER_WHATS = 5;

    private static final long DIGEST_START = 1932L;

    private final Floor floor;
    private final History history;
    private final Text text;
    private final Runner runner;
    private final ItemsAhead aheadOfMove;
    private int timesBad;
    private int timesNo;
    private int timesFull;

    public GatedWorks() {
        floor = new Floor();
        history = new History();
        text = new Text();
        runner = new Runner(text, floor);
        aheadOfMove = new ItemsAhead();
    }

    // ---- the works

    public int begins(int n) {
        if (!within(n, 1, MOST_BUFFERS)) {
            return refuseBad();
        }
        history.keep(floor);
        int was = floor.bufferCount;
        floor.startAnew(n);
        return was;
    }

    public int rooms(int b, int v) {
        if (!floor.hasBuffer(b) || !within(v, 1, MOST_ROOM)) {
            return refuseBad();
        }
        history.keep(floor);
        int was = floor.buffers[b].room;
        floor.buffers[b].room = v;
        floor.serve();
        return was;
    }

    public int station(int in0, int in1, int out, int time, int add) {
        if (!floor.hasBuffer(in0) || !floor.hasBufferOrNone(in1) || !floor.hasBuffer(out)
                || !within(time, 1, MOST_TIME) || !within(add, 0, MOST_KIND)) {
            return refuseBad();
        }
        if (floor.stationCount >= MOST_STATIONS) {
            return refuseFull();
        }
        history.keep(floor);
        int number = floor.stationCount;
        floor.stations[number].setUp(in0, in1, out, time, add);
        floor.stationCount++;
        return number;
    }

    public int guards(int s, int b) {
        if (!floor.hasStation(s) || !floor.hasBufferOrNone(b)) {
            return refuseBad();
        }
        history.keep(floor);
        int was = floor.stations[s].guard;
        floor.stations[s].guard = b;
        return was;
    }

    public int ticks(int n) {
        if (!within(n, 1, MOST_TICKS)) {
            return refuseBad();
        }
        history.keep(floor);
        int made = 0;
        for (int i = 0; i < n; i++) {
            made += floor.tick();
            floor.serve();
        }
        return made;
    }

    // ---- calls that would block

    public int puts(int b, int k) {
        if (!floor.hasBuffer(b) || !within(k, 0, MOST_KIND)) {
            return refuseBad();
        }
        history.keep(floor);
        Buffer to = floor.buffers[b];
        int answer = to.put(k, NONE) ? to.items.size : BLOCK;
        floor.serve();
        return answer;
    }

    public int takes(int b) {
        if (!floor.hasBuffer(b)) {
            return refuseBad();
        }
        history.keep(floor);
        int answer = floor.buffers[b].take(NONE);
        floor.serve();
        return answer;
    }

    public int moves(int a, int b, int n, int undo) {
        if (!floor.hasBuffer(a) || !floor.hasBuffer(b) || a == b
                || !within(n, 1, MOST_MOVED) || !within(undo, 0, 1)) {
            return refuseBad();
        }
        history.keep(floor);
        aheadOfMove.keep(floor);
        int moved = floor.move(a, b, n);
        int answer = n;
        if (moved < n) {
            if (undo == 1) {
                aheadOfMove.giveBack(floor);
                moved = 0;
            }
            answer = MOVE_ENDED - moved;
        }
        floor.serve();
        return answer;
    }

    public int asks(int w, int b, int wish, int k) {
        if (!isWorker(w) || !floor.hasBuffer(b) || !within(wish, WISH_PUT, WISH_TAKE)
                || !within(k, 0, MOST_KIND)) {
            return refuseBad();
        }
        if (floor.workers[w].waits()) {
            return refuseNo();
        }
        history.keep(floor);
        floor.workers[w].wishFor(b, wish, k);
        boolean atOnce = floor.tryWish(w);
        if (!atOnce) {
            floor.waiting.addLast(w);
        }
        floor.serve();
        return atOnce ? 1 : 0;
    }

    public int cancels(int w) {
        if (!isWorker(w)) {
            return refuseBad();
        }
        if (!floor.workers[w].waits()) {
            return refuseNo();
        }
        history.keep(floor);
        floor.workers[w].wishNoMore();
        floor.waiting.removeAt(floor.waiting.placeOf(w));
        return floor.waiting.size;
    }

    // ---- keeping

    public int keeps(int w, int b) {
        if (!isWorker(w) || !floor.hasBuffer(b)) {
            return refuseBad();
        }
        if (floor.queuedAt(w) != NONE) {
            return refuseNo();
        }
        history.keep(floor);
        return floor.buffers[b].keepFor(w);
    }

    public int lets(int w, int b) {
        if (!isWorker(w) || !floor.hasBuffer(b)) {
            return refuseBad();
        }
        if (floor.buffers[b].keptBy != w) {
            return refuseNo();
        }
        history.keep(floor);
        int answer = floor.buffers[b].letGo();
        floor.serve();
        return answer;
    }

    public int quits(int w) {
        if (!isWorker(w)) {
            return refuseBad();
        }
        int b = floor.queuedAt(w);
        if (!floor.hasBuffer(b)) {
            return refuseNo();
        }
        history.keep(floor);
        Row queued = floor.buffers[b].queued;
        queued.removeAt(queued.placeOf(w));
        return b;
    }

    public int keeper(int b, int what) {
        if (!floor.hasBuffer(b) || !within(what, 0, KEEPER_WHATS - 1)) {
            return refuseBad();
        }
        return floor.buffers[b].keepingTold(what);
    }

    public int queue(int b, int i) {
        if (!floor.hasBuffer(b) || i < 0) {
            return refuseBad();
        }
        return floor.buffers[b].queued.at(i);
    }

    public int stuck() {
        return floor.stuckBits();
    }

    // ---- told

    public int buffer(int b, int what) {
        if (!floor.hasBuffer(b) || !within(what, 0, BUFFER_WHATS - 1)) {
            return refuseBad();
        }
        return floor.buffers[b].bufferTold(what);
    }

    public int item(int b, int i) {
        if (!floor.hasBuffer(b) || i < 0) {
            return refuseBad();
        }
        return floor.buffers[b].items.at(i);
    }

    public int of(int s, int what) {
        if (!floor.hasStation(s) || !within(what, 0, STATION_WHATS - 1)) {
            return refuseBad();
        }
        return floor.stations[s].stationTold(what);
    }

    public int worker(int w, int what) {
        if (!isWorker(w) || !within(what, 0, WORKER_WHATS - 1)) {
            return refuseBad();
        }
        return floor.workers[w].workerTold(what);
    }

    public int line(int i) {
        if (i < 0) {
            return refuseBad();
        }
        return floor.waiting.at(i);
    }

    public int works(int what) {
        if (!within(what, 0, WORKS_WHATS - 1)) {
            return refuseBad();
        }
        return floor.worksTold(what);
    }

    // ---- texts

    public int type(int c) {
        if (!within(c, 0, MOST_BYTE)) {
            return refuseBad();
        }
        if (text.isFull()) {
            return refuseFull();
        }
        text.add(c);
        return text.length;
    }

    public int clear() {
        int had = text.length;
        text.length = 0;
        return had;
    }

    public int does() {
        int fault = text.fault();
        if (fault != NONE) {
            return TEXT_FAULT - fault;
        }
        history.keep(floor);
        int answer = runner.run();
        floor.serve();
        return answer;
    }

    public int back() {
        if (history.size == 0) {
            return refuseNo();
        }
        history.giveBack(floor);
        return history.size;
    }

    public int told(int what) {
        if (!within(what, 0, TOLD_WHATS - 1)) {
            return refuseBad();
        }
        return toldOf(what);
    }

    public long digest() {
        long h = DIGEST_START;
        for (int what = 0; what < TOLD_WHATS; what++) {
            h = mixed(h, toldOf(what));
        }
        for (int what = 0; what < WORKS_WHATS; what++) {
            h = mixed(h, floor.worksTold(what));
        }
        for (int b = 0; b < floor.bufferCount; b++) {
            h = mixedBuffer(h, floor.buffers[b]);
        }
        for (int s = 0; s < floor.stationCount; s++) {
            h = mixedStation(h, floor.stations[s]);
        }
        for (int w = 0; w < WORKERS; w++) {
            h = mixedWorker(h, floor.workers[w]);
        }
        h = mixedRow(h, floor.waiting);
        return mixed(h, floor.stuckBits());
    }

    private int toldOf(int what) {
        switch (what) {
            case 0: return timesBad;
            case 1: return timesNo;
            case 2: return timesFull;
            case 3: return text.length;
            default: return history.size;
        }
    }

    private int refuseBad() {
        timesBad++;
        return BAD;
    }

    private int refuseNo() {
        timesNo++;
        return NO;
    }

    private int refuseFull() {
        timesFull++;
        return FULL;
    }

    private static boolean within(int v, int least, int most) {
        return v >= least && v <= most;
    }

    private static boolean isWorker(int w) {
        return within(w, 0, WORKERS - 1);
    }

    private static long mixed(long h, int v) {
        return 31L * h + v;
    }

    private static long mixedRow(long h, Row row) {
        long mix = h;
        for (int i = 0; i < row.size; i++) {
            mix = mixed(mix, row.at(i));
        }
        return mix;
    }

    private static long mixedBuffer(long h, Buffer b) {
        long mix = h;
        for (int what = 0; what < BUFFER_WHATS; what++) {
            mix = mixed(mix, b.bufferTold(what));
        }
        mix = mixedRow(mix, b.items);
        for (int what = 0; what < KEEPER_WHATS; what++) {
            mix = mixed(mix, b.keepingTold(what));
        }
        return mixedRow(mix, b.queued);
    }

    private static long mixedStation(long h, Station s) {
        long mix = h;
        for (int what = 0; what < STATION_WHATS; what++) {
            mix = mixed(mix, s.stationTold(what));
        }
        return mix;
    }

    private static long mixedWorker(long h, Worker w) {
        long mix = h;
        for (int what = 0; what < WORKER_WHATS; what++) {
            mix = mixed(mix, w.workerTold(what));
        }
        return mix;
    }

    /** A short row of numbers; ITEMS, a QUEUE and THE LINE all have six places at most. */
    private static final class Row {
        private final int[] values = new int[ROW_PLACES];
        private int size;

        int at(int i) {
            return i >= 0 && i < size ? values[i] : NONE;
        }

        int placeOf(int v) {
            for (int i = 0; i < size; i++) {
                if (values[i] == v) {
                    return i;
                }
            }
            return NONE;
        }

        void addLast(int v) {
            if (size < ROW_PLACES) {
                values[size] = v;
                size++;
            }
        }

        void addFirst(int v) {
            if (size < ROW_PLACES) {
                System.arraycopy(values, 0, values, 1, size);
                values[0] = v;
                size++;
            }
        }

        int removeAt(int i) {
            if (i < 0 || i >= size) {
                return NONE;
            }
            int gone = values[i];
            size--;
            System.arraycopy(values, i + 1, values, i, size - i);
            return gone;
        }

        void copyFrom(Row other) {
            System.arraycopy(other.values, 0, values, 0, ROW_PLACES);
            size = other.size;
        }
    }

    private static final class Gate {
        private int entries;
        private int depth;
        private int deepest;
        private int thrown;

        void enter() {
            entries++;
            depth++;
            deepest = Math.max(deepest, depth);
        }

        void leave() {
            depth--;
        }

        void leaveThrown() {
            depth--;
            thrown++;
        }

        void startAnew() {
            entries = 0;
            depth = 0;
            deepest = 0;
            thrown = 0;
        }

        void copyFrom(Gate other) {
            entries = other.entries;
            depth = other.depth;
            deepest = other.deepest;
            thrown = other.thrown;
        }
    }

    private static final class Buffer {
        private final Gate gate = new Gate();
        private final Row items = new Row();
        private final Row queued = new Row();
        private int room;
        private int ins;
        private int outs;
        private int peak;
        private int keptBy;
        private int keptTimes;

        /** PUT by a WORKER's own WISH, or by nobody (NONE); false: it WOULD BLOCK. */
        boolean put(int kind, int by) {
            gate.enter();
            if (items.size >= room || isKeptByAnother(by)) {
                gate.leaveThrown();
                return false;
            }
            items.addLast(kind);
            ins++;
            peak = Math.max(peak, items.size);
            gate.leave();
            return true;
        }

        /** TAKE by a WORKER's own WISH, or by nobody (NONE): the KIND, or BLOCK. */
        int take(int by) {
            gate.enter();
            if (items.size == 0 || isKeptByAnother(by)) {
                gate.leaveThrown();
                return BLOCK;
            }
            outs++;
            int kind = items.removeAt(0);
            gate.leave();
            return kind;
        }

        boolean canGive(int needed) {
            return items.size >= needed && keptBy == NONE;
        }

        /** The first ITEM goes, within a GATE that is entered already. */
        int giveFirst() {
            outs++;
            return items.removeAt(0);
        }

        boolean isKeptByAnother(int by) {
            return keptBy != NONE && keptBy != by;
        }

        /** How often w keeps it now; BLOCK puts him into the QUEUE, but throws nothing out of the GATE. */
        int keepFor(int w) {
            gate.enter();
            int answer = BLOCK;
            if (isKeptByAnother(w)) {
                queued.addLast(w);
            } else {
                keptBy = w;
                keptTimes++;
                answer = keptTimes;
            }
            gate.leave();
            return answer;
        }

        int letGo() {
            gate.enter();
            keptTimes--;
            int answer = keptTimes;
            if (keptTimes == 0) {
                keptBy = queued.removeAt(0);
                keptTimes = keptBy == NONE ? 0 : 1;
            }
            gate.leave();
            return answer;
        }

        int bufferTold(int what) {
            switch (what) {
                case 0: return items.size;
                case 1: return room;
                case 2: return ins;
                case 3: return outs;
                case 4: return peak;
                case 5: return gate.entries;
                case 6: return gate.thrown;
                default: return gate.deepest;
            }
        }

        int keepingTold(int what) {
            switch (what) {
                case 0: return keptBy;
                case 1: return keptTimes;
                default: return queued.size;
            }
        }

        void startAnew() {
            gate.startAnew();
            items.size = 0;
            queued.size = 0;
            room = FIRST_ROOM;
            ins = 0;
            outs = 0;
            peak = 0;
            keptBy = NONE;
            keptTimes = 0;
        }

        void copyFrom(Buffer other) {
            gate.copyFrom(other.gate);
            items.copyFrom(other.items);
            queued.copyFrom(other.queued);
            room = other.room;
            ins = other.ins;
            outs = other.outs;
            peak = other.peak;
            keptBy = other.keptBy;
            keptTimes = other.keptTimes;
        }
    }

    private static final class Station {
        private int in0;
        private int in1;
        private int out;
        private int time;
        private int add;
        private int guard;
        private int phase;
        private int left;
        private int kind;
        private int made;
        private int held;
        private int starved;

        void setUp(int first, int second, int to, int takesTime, int adds) {
            in0 = first;
            in1 = second;
            out = to;
            time = takesTime;
            add = adds;
            guard = NONE;
            becomeIdle();
            made = 0;
            held = 0;
            starved = 0;
        }

        void becomeIdle() {
            phase = IDLE;
            left = 0;
            kind = NONE;
        }

        /** With what it took, KINDS together; BLOCK: it could not. */
        void load(int taken) {
            if (taken == BLOCK) {
                starved++;
                return;
            }
            phase = BUSY;
            left = time;
            kind = (taken + add) % KINDS;
        }

        void workOn() {
            if (phase == BUSY) {
                left--;
                if (left == 0) {
                    phase = DONE;
                }
            }
        }

        int stationTold(int what) {
            switch (what) {
                case 0: return phase;
                case 1: return left;
                case 2: return kind;
                case 3: return made;
                case 4: return held;
                case 5: return starved;
                default: return guard;
            }
        }

        void copyFrom(Station other) {
            in0 = other.in0;
            in1 = other.in1;
            out = other.out;
            time = other.time;
            add = other.add;
            guard = other.guard;
            phase = other.phase;
            left = other.left;
            kind = other.kind;
            made = other.made;
            held = other.held;
            starved = other.starved;
        }
    }

    private static final class Worker {
        private int place;
        private int wish;
        private int kind;
        private int got;

        boolean waits() {
            return wish != NONE;
        }

        void wishFor(int b, int what, int k) {
            place = b;
            wish = what;
            kind = what == WISH_PUT ? k : NONE;
        }

        void wishNoMore() {
            place = NONE;
            wish = NONE;
            kind = NONE;
        }

        int workerTold(int what) {
            switch (what) {
                case 0: return waits() ? 1 : 0;
                case 1: return place;
                case 2: return wish;
                case 3: return kind;
                default: return got;
            }
        }

        void startAnew() {
            wishNoMore();
            got = NONE;
        }

        void copyFrom(Worker other) {
            place = other.place;
            wish = other.wish;
            kind = other.kind;
            got = other.got;
        }
    }

    /** All that a STATE holds: it is copied whole to go back to. */
    private static final class Floor {
        private final Buffer[] buffers = new Buffer[MOST_BUFFERS];
        private final Station[] stations = new Station[MOST_STATIONS];
        private final Worker[] workers = new Worker[WORKERS];
        private final Row waiting = new Row();
        private final Gate master = new Gate();
        private int bufferCount;
        private int stationCount;
        private int tickCount;
        private int unguarded;

        Floor() {
            for (int b = 0; b < MOST_BUFFERS; b++) {
                buffers[b] = new Buffer();
            }
            for (int s = 0; s < MOST_STATIONS; s++) {
                stations[s] = new Station();
            }
            for (int w = 0; w < WORKERS; w++) {
                workers[w] = new Worker();
            }
            startAnew(FIRST_BUFFERS);
        }

        void startAnew(int n) {
            for (int b = 0; b < MOST_BUFFERS; b++) {
                buffers[b].startAnew();
            }
            for (int w = 0; w < WORKERS; w++) {
                workers[w].startAnew();
            }
            waiting.size = 0;
            master.startAnew();
            bufferCount = n;
            stationCount = 0;
            tickCount = 0;
            unguarded = 0;
        }

        boolean hasBuffer(int b) {
            return b >= 0 && b < bufferCount;
        }

        boolean hasBufferOrNone(int b) {
            return b == NONE || hasBuffer(b);
        }

        boolean hasStation(int s) {
            return s >= 0 && s < stationCount;
        }

        /** MOVES up to n from a to another BUFFER b: how many; fewer than n: it WOULD BLOCK. */
        int move(int a, int b, int n) {
            Gate outer = buffers[Math.min(a, b)].gate;
            Gate inner = buffers[Math.max(a, b)].gate;
            outer.enter();
            inner.enter();
            int moved = 0;
            while (moved < n && moveOne(buffers[a], buffers[b])) {
                moved++;
            }
            leaveBoth(outer, inner, moved < n);
            return moved;
        }

        private static boolean moveOne(Buffer from, Buffer to) {
            int kind = from.take(NONE);
            if (kind == BLOCK) {
                return false;
            }
            if (!to.put(kind, NONE)) {
                from.items.addFirst(kind);
                return false;
            }
            return true;
        }

        private static void leaveBoth(Gate outer, Gate inner, boolean blocked) {
            if (blocked) {
                inner.leaveThrown();
                outer.leaveThrown();
            } else {
                inner.leave();
                outer.leave();
            }
        }

        /** A TICK of all STATIONS: how many ITEMS were MADE. */
        int tick() {
            tickCount++;
            int made = 0;
            for (int s = 0; s < stationCount; s++) {
                made += tickStation(stations[s]);
            }
            return made;
        }

        private int tickStation(Station s) {
            if (!hasBuffer(s.guard)) {
                unguarded++;
                return work(s);
            }
            Gate gate = buffers[s.guard].gate;
            gate.enter();
            int made = work(s);
            gate.leave();
            return made;
        }

        private int work(Station s) {
            s.workOn();
            int made = s.phase == DONE ? deliver(s) : 0;
            if (s.phase == IDLE && hasBuffer(s.in0)) {
                s.load(hasBuffer(s.in1) ? takePair(s.in0, s.in1) : buffers[s.in0].take(NONE));
            }
            return made;
        }

        private int deliver(Station s) {
            if (!hasBuffer(s.out) || !buffers[s.out].put(s.kind, NONE)) {
                s.held++;
                return 0;
            }
            s.becomeIdle();
            s.made++;
            return 1;
        }

        /** Both ITEMS go or none does: their KINDS together, or BLOCK. */
        private int takePair(int a, int b) {
            Buffer outer = buffers[Math.min(a, b)];
            Buffer inner = buffers[Math.max(a, b)];
            outer.gate.enter();
            inner.gate.enter();
            int needed = a == b ? 2 : 1;
            int kinds = BLOCK;
            if (outer.canGive(needed) && inner.canGive(needed)) {
                kinds = outer.giveFirst() + inner.giveFirst();
            }
            leaveBoth(outer.gate, inner.gate, kinds == BLOCK);
            return kinds;
        }

        /** Whether the WISH of w could be done; he wishes no more then. */
        boolean tryWish(int w) {
            if (!isWorker(w) || !hasBuffer(workers[w].place)) {
                return false;
            }
            Worker worker = workers[w];
            Buffer at = buffers[worker.place];
            if (worker.wish == WISH_PUT) {
                if (!at.put(worker.kind, w)) {
                    return false;
                }
            } else {
                int kind = at.take(w);
                if (kind == BLOCK) {
                    return false;
                }
                worker.got = kind;
            }
            worker.wishNoMore();
            return true;
        }

        /** SERVING: each one served makes THE LINE shorter, so it begins anew at most as often as it can be long. */
        void serve() {
            boolean served = true;
            for (int round = 0; round <= WORKERS && served; round++) {
                served = serveFirst();
            }
        }

        /** Serves the first of THE LINE whose WISH can be done; false: none can. */
        private boolean serveFirst() {
            for (int i = 0; i < waiting.size; i++) {
                if (tryWish(waiting.at(i))) {
                    waiting.removeAt(i);
                    return true;
                }
            }
            return false;
        }

        /** The BUFFER in whose QUEUE w is; NONE. */
        int queuedAt(int w) {
            for (int b = 0; b < bufferCount; b++) {
                if (buffers[b].queued.placeOf(w) != NONE) {
                    return b;
                }
            }
            return NONE;
        }

        int stuckBits() {
            int bits = 0;
            for (int w = 0; w < WORKERS; w++) {
                if (isStuck(w)) {
                    bits |= 1 << w;
                }
            }
            return bits;
        }

        /** A way back to w passes each WORKER at most once, so more steps than WORKERS lead elsewhere. */
        private boolean isStuck(int w) {
            int at = w;
            for (int step = 0; step < WORKERS; step++) {
                int b = queuedAt(at);
                if (!hasBuffer(b)) {
                    return false;
                }
                at = buffers[b].keptBy;
                if (at == w) {
                    return true;
                }
            }
            return false;
        }

        int worksTold(int what) {
            switch (what) {
                case 0: return bufferCount;
                case 1: return stationCount;
                case 2: return tickCount;
                case 3: return unguarded;
                case 4: return master.entries;
                case 5: return master.thrown;
                case 6: return master.deepest;
                case 7: return allItems();
                case 8: return allEntries();
                default: return waiting.size;
            }
        }

        private int allItems() {
            int sum = 0;
            for (int b = 0; b < bufferCount; b++) {
                sum += buffers[b].items.size;
            }
            return sum;
        }

        private int allEntries() {
            int sum = master.entries;
            for (int b = 0; b < bufferCount; b++) {
                sum += buffers[b].gate.entries;
            }
            return sum;
        }

        void copyFrom(Floor other) {
            for (int b = 0; b < MOST_BUFFERS; b++) {
                buffers[b].copyFrom(other.buffers[b]);
            }
            for (int s = 0; s < MOST_STATIONS; s++) {
                stations[s].copyFrom(other.stations[s]);
            }
            for (int w = 0; w < WORKERS; w++) {
                workers[w].copyFrom(other.workers[w]);
            }
            waiting.copyFrom(other.waiting);
            master.copyFrom(other.master);
            bufferCount = other.bufferCount;
            stationCount = other.stationCount;
            tickCount = other.tickCount;
            unguarded = other.unguarded;
        }
    }

    /** The STATES: a ring of floors that are made once and written over, as nothing is ever given back to the room. */
    private static final class History {
        private final Floor[] floors = new Floor[MOST_STATES];
        private int next;
        private int size;

        History() {
            for (int i = 0; i < MOST_STATES; i++) {
                floors[i] = new Floor();
            }
        }

        void keep(Floor floor) {
            floors[next].copyFrom(floor);
            next = (next + 1) % MOST_STATES;
            size = Math.min(size + 1, MOST_STATES);
        }

        void giveBack(Floor floor) {
            if (size > 0) {
                next = (next + MOST_STATES - 1) % MOST_STATES;
                size--;
                floor.copyFrom(floors[next]);
            }
        }
    }

    /** ITEMS of all BUFFERS as they were ahead of what may be undone; counts are not among them. */
    private static final class ItemsAhead {
        private final Row[] rows = new Row[MOST_BUFFERS];

        ItemsAhead() {
            for (int b = 0; b < MOST_BUFFERS; b++) {
                rows[b] = new Row();
            }
        }

        void keep(Floor floor) {
            for (int b = 0; b < MOST_BUFFERS; b++) {
                rows[b].copyFrom(floor.buffers[b].items);
            }
        }

        void giveBack(Floor floor) {
            for (int b = 0; b < MOST_BUFFERS; b++) {
                floor.buffers[b].items.copyFrom(rows[b]);
            }
        }
    }

    private static final class Text {
        private final int[] bytes = new int[MOST_BYTES];
        private int length;

        boolean isFull() {
            return length >= MOST_BYTES;
        }

        void add(int c) {
            if (!isFull()) {
                bytes[length] = c;
                length++;
            }
        }

        int at(int i) {
            return i >= 0 && i < length ? bytes[i] : NONE;
        }

        /** The FAULT; NONE. */
        int fault() {
            int groups = 0;
            int figures = 0;
            boolean empty = true;
            for (int i = 0; i < length; i++) {
                int c = at(i);
                if (c == ' ') {
                    continue;
                }
                empty = false;
                if (figures > 0) {
                    if (!within(c, '0', '9')) {
                        return i;
                    }
                    figures--;
                } else if (c == '(' && groups < MOST_GROUPS) {
                    groups++;
                } else if (c == ')' && groups > 0) {
                    groups--;
                } else {
                    figures = figuresOf(c);
                    if (figures == 0) {
                        return i;
                    }
                }
            }
            return empty || figures > 0 || groups > 0 ? length : NONE;
        }

        /** How many figures an ORDER has behind its letter; 0: no letter of an ORDER. */
        private static int figuresOf(int c) {
            switch (c) {
                case 'p': return 2;
                case 't': return 1;
                case 'm': return 3;
                default: return 0;
            }
        }
    }

    /** Does the ORDERS of a TEXT without FAULT. Level 0 is THE TEXT itself, 1 and on the GROUPS that are open. */
    private static final class Runner {
        private final ItemsAhead[] aheadOf = new ItemsAhead[MOST_GROUPS + 1];
        private final int[] doneAheadOf = new int[MOST_GROUPS + 1];
        private final Text text;
        private final Floor floor;
        private int place;
        private int level;
        private int done;
        private int cameTo;

        Runner(Text orders, Floor on) {
            text = orders;
            floor = on;
            for (int i = 0; i <= MOST_GROUPS; i++) {
                aheadOf[i] = new ItemsAhead();
            }
        }

        int run() {
            place = 0;
            level = NONE;
            done = 0;
            cameTo = 0;
            enterLevel();
            for (int step = 0; step < MOST_BYTES && place < text.length; step++) {
                int c = nextByte();
                if (c == '(') {
                    enterLevel();
                } else if (c == ')') {
                    leaveLevel();
                } else if (c != ' ' && !orderDone(c)) {
                    undoLevel();
                    if (level == NONE) {
                        return TEXT_ENDED - cameTo;
                    }
                    cameTo++;
                    skipGroup();
                }
            }
            leaveLevel();
            return done;
        }

        private void enterLevel() {
            if (level < MOST_GROUPS) {
                level++;
                floor.master.enter();
                aheadOf[level].keep(floor);
                doneAheadOf[level] = done;
            }
        }

        private void leaveLevel() {
            if (level >= 0) {
                floor.master.leave();
                level--;
            }
        }

        private void undoLevel() {
            if (level >= 0) {
                floor.master.leaveThrown();
                aheadOf[level].giveBack(floor);
                done = doneAheadOf[level];
                level--;
            }
        }

        /** To behind the ) of the GROUP that the place is in. */
        private void skipGroup() {
            int open = 1;
            for (int step = 0; step < MOST_BYTES && place < text.length && open > 0; step++) {
                int c = nextByte();
                if (c == '(') {
                    open++;
                } else if (c == ')') {
                    open--;
                }
            }
        }

        /** False: the ORDER WOULD BLOCK; its place is left behind in any case. */
        private boolean orderDone(int c) {
            int a = nextFigure();
            boolean could;
            if (c == 't') {
                could = floor.hasBuffer(a) && floor.buffers[a].take(NONE) != BLOCK;
            } else if (c == 'p') {
                int kind = nextFigure();
                could = floor.hasBuffer(a) && floor.buffers[a].put(kind, NONE);
            } else {
                int b = nextFigure();
                int n = nextFigure();
                could = floor.hasBuffer(a) && floor.hasBuffer(b) && a != b && floor.move(a, b, n) == n;
            }
            if (could) {
                cameTo++;
                done++;
            }
            return could;
        }

        private int nextFigure() {
            while (place < text.length && text.at(place) == ' ') {
                place++;
            }
            return nextByte() - '0';
        }

        private int nextByte() {
            int c = text.at(place);
            place++;
            return c;
        }
    }
}
