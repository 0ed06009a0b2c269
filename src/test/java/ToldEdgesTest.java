/** Promises 18 to 23, 28 and 29, what is told, at their boundaries. */
public final class ToldEdgesTest {
    private static final Due DUE = new Due();
    private static final Script SAYS = new Script(DUE);

    public static void main(String[] args) {
        bufferTold();
        bufferDeepest();
        depthBehindCalls();
        depthBehindTicks();
        depthBehindTexts();
        itemTold();
        ofTold();
        ofWhats();
        workerTold();
        lineTold();
        worksTold();
        worksEntries();
        toldTold();
        toldCounts();
        digestOfMuch();
        digestOfLittle();
        DUE.end();
    }

    private static void bufferTold() {
        SAYS.edge("18: what 0 .. 7, BUFFERS 0 .. N less 1", """
            rooms 2 6 = 2; puts 2 1 = 1; puts 2 2 = 2; puts 2 3 = 3; takes 2 = 1; moves 2 0 3 1 = -100
            buffer 2 0 = 2; buffer 2 1 = 6; buffer 2 2 = 3; buffer 2 3 = 3; buffer 2 4 = 3; buffer 2 5 = 8; buffer 2 6 = 2; buffer 2 7 = 2
            buffer 2 -1 = BAD; buffer 2 8 = BAD; buffer 2 LOW = BAD; buffer 2 HIGH = BAD
            buffer -1 0 = BAD; buffer 3 0 = BAD; buffer LOW 0 = BAD; buffer HIGH 0 = BAD; told 4 = 6
            """);
        SAYS.edge("18: the most works, the least", "begins 6 = 3; buffer 5 7 = 0; buffer 6 7 = BAD; begins 1 = 6; buffer 0 1 = 2; buffer 1 1 = BAD");
    }

    private static void bufferDeepest() {
        SAYS.edge("18: DEEPEST ever: it stays when DEPTH is less again", """
            buffer 0 7 = 0; takes 0 = BLOCK; buffer 0 7 = 1; takes 0 = BLOCK; buffer 0 7 = 1; moves 0 1 1 0 = -100; buffer 0 7 = 2; buffer 1 7 = 1
            station 0 0 1 1 0 = 0; guards 0 0 = NONE; ticks 1 = 0; buffer 0 7 = 3; takes 0 = BLOCK; moves 0 1 1 0 = -100; buffer 0 7 = 3
            """);
        SAYS.edge("18: ENTRIES, THROWN and DEEPEST belong to each BUFFER by itself", """
            takes 0 = BLOCK; puts 1 1 = 1; gate 0 = 1 1 1; gate 1 = 1 0 1; gate 2 = 0 0 0; master = 0 0 0
            """);
    }

    /** If a call left a GATE too often or too seldom, the deepest that can be, tried behind it, would not be 3, of the MASTER GATE 5. */
    private static void depthIsNone(String calls, int stations) {
        SAYS.edge("18: DEPTH: a GATE is left as often as it is entered: " + calls, calls + ";" + deepest(stations));
    }

    private static String deepest(int stations) {
        String steps = "";
        for (int b = 0; b < 3; b++) {
            int s = stations + b;
            steps += "station " + b + " " + b + " 0 9 0 = " + s + "; guards " + s + " " + b + " = NONE;";
        }
        return steps + "ticks 1; buffer 0 7 = 3; buffer 1 7 = 3; buffer 2 7 = 3; doing '(((())))' = 0; works 6 = 5";
    }

    private static void depthBehindCalls() {
        depthIsNone("puts 0 1 = 1", 0);
        depthIsNone("puts 0 1 = 1; puts 0 2 = 2; puts 0 3 = BLOCK", 0);
        depthIsNone("puts 0 1 = 1; takes 0 = 1", 0);
        depthIsNone("takes 0 = BLOCK", 0);
        depthIsNone("puts 0 1 = 1; moves 0 1 1 0 = 1", 0);
        depthIsNone("puts 2 1 = 1; moves 2 1 1 1 = 1", 0);
        depthIsNone("moves 0 1 1 0 = -100", 0);
        depthIsNone("moves 2 1 1 1 = -100", 0);
        depthIsNone("puts 0 1 = 1; keeps 0 1 = 1; moves 0 1 1 0 = -100", 0);
        depthIsNone("puts 2 1 = 1; keeps 0 1 = 1; moves 2 1 1 1 = -100", 0);
        depthIsNone("asks 0 0 0 1 = 1; asks 0 0 1 0 = 1", 0);
        depthIsNone("asks 0 0 1 0 = 0; asks 1 1 1 0 = 0; puts 0 1 = 1", 0);
        depthIsNone("keeps 0 0 = 1", 0);
        depthIsNone("keeps 0 0 = 1; keeps 1 0 = BLOCK", 0);
        depthIsNone("keeps 0 0 = 1; lets 0 0 = 0", 0);
        depthIsNone("keeps 0 0 = 1; keeps 0 0 = 2; lets 0 0 = 1", 0);
        depthIsNone("keeps 0 0 = 1; keeps 1 0 = BLOCK; lets 0 0 = 0", 0);
        depthIsNone("keeps 0 0 = 1; keeps 1 0 = BLOCK; quits 1 = 0", 0);
        depthIsNone("keeps 0 2 = 1; asks 1 2 1 0 = 0; cancels 1 = 0; rooms 0 6 = 2; begins 3 = 3", 0);
        depthIsNone("keeps 0 0 = 1; asks 1 0 1 0 = 0; cancels 1 = 0", 0);
        depthIsNone("""
            keeper 0 0 = NONE; queue 0 0 = NONE; stuck = 0; buffer 0 0 = 0; item 0 0 = NONE; worker 0 0 = 0; line 0 = NONE; works 0 = 3; told 0 = 0
            station 0 NONE 1 1 0 = 0; guards 0 1 = NONE; of 0 0 = 0
            """, 1);
    }

    private static void depthBehindTicks() {
        depthIsNone("station 0 NONE 1 1 0 = 0; ticks 1 = 0", 1);
        depthIsNone("station 0 NONE 1 1 0 = 0; guards 0 2 = NONE; ticks 1 = 0", 1);
        depthIsNone("station 0 NONE 1 1 0 = 0; puts 0 1 = 1; ticks 2 = 1", 1);
        depthIsNone("station 0 NONE 1 1 0 = 0; guards 0 2 = NONE; puts 0 1 = 1; ticks 2 = 1", 1);
        depthIsNone("station 0 NONE 1 1 0 = 0; guards 0 1 = NONE; puts 0 1 = 1; keeps 0 1 = 1; ticks 3 = 0", 1);
        depthIsNone("station 0 1 2 1 0 = 0; ticks 1 = 0", 1);
        depthIsNone("station 1 0 2 1 0 = 0; puts 0 1 = 1; puts 1 1 = 1; ticks 2 = 1", 1);
        depthIsNone("station 0 0 2 1 0 = 0; puts 0 1 = 1; puts 0 1 = 2; ticks 1 = 0", 1);
        depthIsNone("station 0 0 2 1 0 = 0; ticks 1 = 0", 1);
    }

    private static void depthBehindTexts() {
        depthIsNone("doing 'p01t0' = 2", 0);
        depthIsNone("doing 't9' = -1000", 0);
        depthIsNone("doing 'p01m011m120' = 3", 0);
        depthIsNone("doing 'm011' = -1000", 0);
        depthIsNone("doing '(p01)((t1))()' = 1", 0);
        depthIsNone("doing '((p01)t9)(t9(()))' = 0", 0);
        depthIsNone("doing '((p01)t9)t9(p02)' = -1002", 0);
        depthIsNone("doing '((p01)' = -16", 0);
        depthIsNone("doing '((t9))t9' = -1001; back = 0", 0);
    }

    private static void itemTold() {
        SAYS.edge("19: KIND of the i-th ITEM (0 the first); NONE behind the last; BAD: i below 0", """
            rooms 0 6 = 2; item 0 0 = NONE; puts 0 9 = 1; puts 0 0 = 2; item 0 0 = 9; item 0 1 = 0; item 0 2 = NONE; item 0 HIGH = NONE
            puts 0 7 = 3; puts 0 6 = 4; puts 0 5 = 5; puts 0 4 = 6; item 0 5 = 4; item 0 6 = NONE; item 0 7 = NONE
            item 0 -1 = BAD; item 0 LOW = BAD; item -1 0 = BAD; item 3 0 = BAD; item LOW 0 = BAD; item HIGH 0 = BAD; item 2 0 = NONE
            """);
        SAYS.edge("19: a row that was longer", "puts 1 3 = 1; puts 1 4 = 2; takes 1 = 3; item 1 0 = 4; item 1 1 = NONE; takes 1 = 4; item 1 0 = NONE");
    }

    private static void ofTold() {
        SAYS.edge("20: what 0 .. 6, STATIONS that are there", """
            of 0 0 = BAD; station 0 NONE 1 1 0 = 0; of 0 0 = 0; of 1 0 = BAD; of -1 0 = BAD; of LOW 0 = BAD; of HIGH 0 = BAD
            of 0 -1 = BAD; of 0 7 = BAD; of 0 LOW = BAD; of 0 HIGH = BAD; of 0 6 = NONE; told 4 = 1
            """);
        SAYS.edge("20: six STATIONS", """
            station 0 NONE 1 1 0 = 0; station 0 NONE 1 1 0 = 1; station 0 NONE 1 1 0 = 2; station 0 NONE 1 1 0 = 3; station 0 NONE 1 1 0 = 4
            of 5 0 = BAD; station 0 NONE 1 1 0 = 5; of 5 0 = 0; of 6 0 = BAD
            """);
    }

    private static void ofWhats() {
        SAYS.edge("20: IDLE: LEFT 0, KIND NONE; BUSY; DONE: LEFT 0, its KIND yet", """
            station 0 NONE 1 2 0 = 0; guards 0 1 = NONE; ticks 1 = 0; of 0 0 = 0; of 0 1 = 0; of 0 2 = NONE; of 0 5 = 1
            puts 0 0 = 1; ticks 1 = 0; of 0 0 = 1; of 0 1 = 2; of 0 2 = 0; ticks 1 = 0; of 0 0 = 1; of 0 1 = 1
            keeps 2 1 = 1; ticks 1 = 0; of 0 0 = 2; of 0 1 = 0; of 0 2 = 0; of 0 3 = 0; of 0 4 = 1; of 0 5 = 1; of 0 6 = 1
            lets 2 1 = 0; ticks 1 = 1; of 0 0 = 0; of 0 1 = 0; of 0 2 = NONE; of 0 3 = 1; of 0 4 = 1; of 0 5 = 2; of 0 6 = 1
            """);
    }

    private static void workerTold() {
        SAYS.edge("21: what 0 .. 4, WORKERS 0 .. 5", """
            asks 5 2 1 9 = 0; worker 5 0 = 1; worker 5 1 = 2; worker 5 2 = 1; worker 5 3 = NONE; worker 5 4 = NONE
            worker 5 -1 = BAD; worker 5 5 = BAD; worker 5 LOW = BAD; worker 5 HIGH = BAD
            worker -1 0 = BAD; worker 6 0 = BAD; worker LOW 0 = BAD; worker HIGH 0 = BAD; told 4 = 1
            """);
        SAYS.edge("21: WISH, BUFFER, KIND 0 are no NONE; NONE: no WISH to PUT", """
            keeps 1 0 = 1; asks 0 0 0 0 = 0; worker 0 0 = 1; worker 0 1 = 0; worker 0 2 = 0; worker 0 3 = 0; worker 0 4 = NONE
            lets 1 0 = 0; worker 0 0 = 0; worker 0 1 = NONE; worker 0 2 = NONE; worker 0 3 = NONE; worker 0 4 = NONE
            asks 0 0 1 7 = 1; worker 0 4 = 0; worker 0 3 = NONE
            """);
    }

    private static void lineTold() {
        SAYS.edge("22: the i-th WORKER (0 on); NONE behind the last; BAD: below 0", """
            line 0 = NONE; line HIGH = NONE; line -1 = BAD; line LOW = BAD
            asks 4 0 1 0 = 0; line 0 = 4; line 1 = NONE; asks 0 0 1 0 = 0; asks 1 0 1 0 = 0; asks 2 0 1 0 = 0; asks 3 0 1 0 = 0; asks 5 0 1 0 = 0
            line 0 = 4; line 1 = 0; line 5 = 5; line 6 = NONE; line 7 = NONE; line HIGH = NONE; line -1 = BAD; told 4 = 6
            """);
    }

    private static void worksTold() {
        SAYS.edge("23: what 0 .. 9", """
            works -1 = BAD; works 10 = BAD; works LOW = BAD; works HIGH = BAD; told 4 = 0
            begins 2 = 3; station 0 NONE 1 1 0 = 0; ticks 2 = 0; asks 0 0 1 0 = 0; doing 'p1 1()(t0)' = 1
            works 0 = 2; works 1 = 1; works 2 = 2; works 3 = 2; works 4 = 3; works 5 = 1; works 6 = 2; works 7 = 1; works 8 = 10; works 9 = 1
            """);
        SAYS.edge("23: ITEMS of all BUFFERS: full works", """
            begins 6 = 3; doing 'p00p01p10p11p20p21p30p31p40p41p50p51' = 12; works 7 = 12; takes 5 = 0; works 7 = 11; moves 0 5 1 0 = 1; works 7 = 11
            begins 1 = 6; works 7 = 0
            """);
    }

    private static void worksEntries() {
        SAYS.edge("23: ENTRIES of all GATES: of each BUFFER and the MASTER GATE", """
            begins 6 = 3; works 8 = 0; takes 0 = BLOCK; works 8 = 1; takes 5 = BLOCK; works 8 = 2; keeps 1 3 = 1; works 8 = 3
            doing '()' = 0; works 8 = 5; doing 't9' = -1000; works 8 = 6; works 4 = 3; doing 'm120' = 1; works 8 = 9
            """);
    }

    private static void toldTold() {
        SAYS.edge("28: what 0 .. 4", """
            told 0 = 0; told 1 = 0; told 2 = 0; told 3 = 0; told 4 = 0; told -1 = BAD; told 5 = BAD; told LOW = BAD; told HIGH = BAD
            told 0 = 4; told 1 = 0; told 2 = 0; told 3 = 0; told 4 = 0
            """);
    }

    private static void toldCounts() {
        SAYS.edge("28: BAD, NO, FULL, each by itself; BLOCK and a FAULT are no refusal", """
            back = NO; cancels 0 = NO; quits 0 = NO; takes 3 = BAD; takes 0 = BLOCK; does = -10; told 0 = 1; told 1 = 3; told 2 = 0
            station 0 0 0 1 0; station 0 0 0 1 0; station 0 0 0 1 0; station 0 0 0 1 0; station 0 0 0 1 0; station 0 0 0 1 0
            station 0 0 0 1 0 = FULL; station 0 0 0 1 0 = FULL; told 0 = 1; told 1 = 3; told 2 = 2; told 4 = 6
            """);
        SAYS.edge("28: how often refused is no STATE's", """
            puts 0 1 = 1; puts 9 1 = BAD; lets 0 0 = NO; back = 0; told 0 = 1; told 1 = 1; begins 3 = 3; told 0 = 1; told 1 = 1
            """);
    }

    private static void digestOfMuch() {
        DUE.about("29: the digest of works with as much as can be");
        Works x = new Works();
        x.begins(6);
        for (int b = 0; b < 6; b++) {
            x.rooms(b, 6);
            for (int k = 0; k < 6; k++) {
                x.puts(b, (k + b) % 10);
            }
        }
        for (int s = 0; s < 6; s++) {
            x.station(s, 5 - s, s, 9, s);
            x.guards(s, s);
        }
        x.ticks(2);
        for (int w = 0; w < 6; w++) {
            x.keeps(w, w);
        }
        for (int w = 1; w < 6; w++) {
            x.keeps(w, 0);
        }
        x.keeps(0, 3);
        for (int w = 0; w < 6; w++) {
            x.asks(w, (w + 1) % 6, w % 2, w);
        }
        x.type('(');
        x.told(-1);
        DUE.is("how many WAIT", x.works(9), 6);
        DUE.is("QUEUE", x.keeper(0, 2), 5);
        DUE.is("stuck()", x.stuck(), 0b001001);
        long want = digestOf(x);
        DUE.is("digest()", x.digest(), want);
        DUE.is("digest() again", x.digest(), want);
    }

    private static void digestOfLittle() {
        DUE.about("29: the digest of works with as little as can be");
        Works x = new Works();
        x.begins(1);
        DUE.is("digest()", x.digest(), digestOf(x));
        x.puts(0, 0);
        DUE.is("digest() with an ITEM of KIND 0", x.digest(), digestOf(x));
        x.keeps(0, 0);
        x.keeps(1, 0);
        x.quits(0);
        DUE.is("digest() with a KEEPER and a QUEUE", x.digest(), digestOf(x));
        DUE.is("STATES", x.told(4), 4);
    }

    private static long digestOf(Works x) {
        long h = 1932;
        for (int what = 0; what < 5; what++) {
            h = 31 * h + x.told(what);
        }
        for (int what = 0; what < 10; what++) {
            h = 31 * h + x.works(what);
        }
        for (int b = 0; b < x.works(0); b++) {
            h = withBuffer(h, x, b);
        }
        for (int s = 0; s < x.works(1); s++) {
            for (int what = 0; what < 7; what++) {
                h = 31 * h + x.of(s, what);
            }
        }
        for (int w = 0; w < 6; w++) {
            for (int what = 0; what < 5; what++) {
                h = 31 * h + x.worker(w, what);
            }
        }
        for (int i = 0; i < x.works(9); i++) {
            h = 31 * h + x.line(i);
        }
        return 31 * h + x.stuck();
    }

    private static long withBuffer(long h, Works x, int b) {
        long mix = h;
        for (int what = 0; what < 8; what++) {
            mix = 31 * mix + x.buffer(b, what);
        }
        int items = x.buffer(b, 0);
        for (int i = 0; i < items; i++) {
            mix = 31 * mix + x.item(b, i);
        }
        for (int what = 0; what < 3; what++) {
            mix = 31 * mix + x.keeper(b, what);
        }
        int queued = x.keeper(b, 2);
        for (int i = 0; i < queued; i++) {
            mix = 31 * mix + x.queue(b, i);
        }
        return mix;
    }
}
