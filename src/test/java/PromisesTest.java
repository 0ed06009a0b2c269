import java.util.function.IntSupplier;

/** One method for each promise of the document: ordinary inputs, edges, and what is refused. */
public final class PromisesTest {
    private static final int NONE = -1, BAD = -2, NO = -3, FULL = -4, BLOCK = -5;
    private static final int LOW = Integer.MIN_VALUE, HIGH = Integer.MAX_VALUE;

    private static final Due DUE = new Due();
    private static Works x;

    public static void main(String[] args) {
        newObject();
        begins();
        beginsAllAnew();
        beginsForgetsStations();
        rooms();
        station();
        guards();
        ticksOfOneIn();
        ticksOfTwoIns();
        ticksHeld();
        ticksServe();
        puts();
        takes();
        movesKept();
        movesUndone();
        movesKeptByWorker();
        keptFromNobody();
        asks();
        asksAndServing();
        asksOfKeeper();
        cancels();
        keeps();
        lets();
        letsServes();
        quits();
        keeper();
        queue();
        stuck();
        buffer();
        item();
        of();
        worker();
        line();
        works();
        type();
        clear();
        doesFaults();
        doesOrders();
        doesGroups();
        doesThrown();
        doesServes();
        back();
        backTellsAll();
        backToStations();
        told();
        digest();
        DUE.end();
    }

    private static void anew(String promise) {
        DUE.about(promise);
        x = new Works();
    }

    private static void due(String call, long got, long want) {
        DUE.is(call, got, want);
    }

    /** A refusal changes nothing but how often. */
    private static void refused(String call, IntSupplier made, int want) {
        int which = want == BAD ? 0 : want == NO ? 1 : 2;
        int[] times = {x.told(0), x.told(1), x.told(2)};
        times[which]++;
        long ahead = x.all();
        due(call, made.getAsInt(), want);
        for (int what = 0; what < 3; what++) {
            due("told(" + what + ") behind " + call, x.told(what), times[what]);
        }
        DUE.holds(call + " changes nothing", x.all() == ahead);
    }

    private static void bad(String call, int got) {
        due(call, got, BAD);
    }

    private static void items(int b, int... kinds) {
        due("ITEMS of " + b, x.buffer(b, 0), kinds.length);
        for (int i = 0; i < kinds.length; i++) {
            due("item(" + b + ", " + i + ")", x.item(b, i), kinds[i]);
        }
        due("item behind the last of " + b, x.item(b, kinds.length), NONE);
    }

    /** ENTRIES, THROWN, DEEPEST of the GATE of b. */
    private static void gate(int b, int entries, int thrown, int deepest) {
        due("ENTRIES of " + b, x.buffer(b, 5), entries);
        due("THROWN of " + b, x.buffer(b, 6), thrown);
        due("DEEPEST of " + b, x.buffer(b, 7), deepest);
    }

    private static void master(int entries, int thrown, int deepest) {
        due("ENTRIES of the MASTER GATE", x.works(4), entries);
        due("THROWN of the MASTER GATE", x.works(5), thrown);
        due("DEEPEST of the MASTER GATE", x.works(6), deepest);
    }

    private static void lineIs(int... workers) {
        due("how many WAIT", x.works(9), workers.length);
        for (int i = 0; i < workers.length; i++) {
            due("line(" + i + ")", x.line(i), workers[i]);
        }
        due("line behind the last", x.line(workers.length), NONE);
    }

    private static int doing(String text) {
        x.clear();
        for (int i = 0; i < text.length(); i++) {
            x.type(text.charAt(i));
        }
        return x.does();
    }

    private static void newObject() {
        anew("1 a new object");
        due("N", x.works(0), 3);
        for (int what = 1; what < 10; what++) {
            due("works(" + what + ")", x.works(what), 0);
        }
        for (int b = 0; b < 3; b++) {
            for (int what = 0; what < 8; what++) {
                due("buffer(" + b + ", " + what + ")", x.buffer(b, what), what == 1 ? 2 : 0);
            }
            due("KEEPER", x.keeper(b, 0), NONE);
            due("KEPT", x.keeper(b, 1), 0);
            due("QUEUE", x.keeper(b, 2), 0);
        }
        for (int w = 0; w < 6; w++) {
            due("WAITS", x.worker(w, 0), 0);
            for (int what = 1; what < 5; what++) {
                due("worker(" + w + ", " + what + ")", x.worker(w, what), NONE);
            }
        }
        for (int what = 0; what < 5; what++) {
            due("told(" + what + ")", x.told(what), 0);
        }
        due("line(0)", x.line(0), NONE);
        due("stuck()", x.stuck(), 0);
        bad("buffer(3, 0)", x.buffer(3, 0));
        bad("of(0, 0)", x.of(0, 0));
        due("back()", x.back(), NO);
        due("NONE", GatedWorks.NONE, NONE);
        due("BAD", GatedWorks.BAD, BAD);
        due("NO", GatedWorks.NO, NO);
        due("FULL", GatedWorks.FULL, FULL);
        due("BLOCK", GatedWorks.BLOCK, BLOCK);
    }

    private static void begins() {
        anew("2 begins");
        due("begins(6)", x.begins(6), 3);
        due("begins(1)", x.begins(1), 6);
        due("N", x.works(0), 1);
        for (int wrong : new int[] {0, 7, -1, LOW, HIGH}) {
            refused("begins(" + wrong + ")", () -> x.begins(wrong), BAD);
        }
        due("N still", x.works(0), 1);
        due("STATES", x.told(4), 2);
        due("back()", x.back(), 1);
        due("N", x.works(0), 6);
    }

    private static void beginsAllAnew() {
        anew("2 begins, all anew");
        x.rooms(0, 5);
        x.puts(0, 1);
        x.puts(0, 2);
        x.station(0, NONE, 1, 1, 0);
        x.ticks(3);
        x.asks(0, 0, 1, 0);
        x.asks(1, 2, 1, 0);
        x.keeps(2, 1);
        x.keeps(3, 1);
        doing("p9 1");
        x.puts(9, 9);
        x.quits(5);
        int states = x.told(4);
        int bytes = x.told(3);
        due("begins(3)", x.begins(3), 3);
        due("BAD still counted", x.told(0), 1);
        due("NO still counted", x.told(1), 1);
        due("THE TEXT stays", x.told(3), bytes);
        due("STATES stay", x.told(4), states);
        Works fresh = new Works();
        for (int what = 0; what < 10; what++) {
            due("works(" + what + ")", x.works(what), fresh.works(what));
        }
        for (int b = 0; b < 3; b++) {
            for (int what = 0; what < 8; what++) {
                due("buffer(" + b + ", " + what + ")", x.buffer(b, what), fresh.buffer(b, what));
            }
            for (int what = 0; what < 3; what++) {
                due("keeper(" + b + ", " + what + ")", x.keeper(b, what), fresh.keeper(b, what));
            }
        }
        for (int w = 0; w < 6; w++) {
            for (int what = 0; what < 5; what++) {
                due("worker(" + w + ", " + what + ")", x.worker(w, what), fresh.worker(w, what));
            }
            due("quits", x.quits(w), NO);
        }
        due("line(0)", x.line(0), NONE);
        due("a STATION's number", x.station(0, NONE, 1, 1, 0), 0);
        for (int what = 0; what < 7; what++) {
            due("of(0, " + what + ")", x.of(0, what), what == 2 || what == 6 ? NONE : 0);
        }
    }

    private static void beginsForgetsStations() {
        anew("2 begins, a STATION of that number was BUSY, HELD ahead");
        x.station(0, NONE, 1, 9, 1);
        x.guards(0, 2);
        x.rooms(1, 1);
        x.puts(1, 1);
        x.puts(0, 1);
        x.puts(0, 1);
        x.ticks(11);
        due("HELD", x.of(0, 4), 2);
        x.takes(1);
        x.ticks(2);
        due("BUSY", x.of(0, 0), 1);
        due("LEFT", x.of(0, 1), 8);
        x.begins(3);
        due("station", x.station(0, NONE, 1, 1, 0), 0);
        for (int what = 0; what < 7; what++) {
            due("of(0, " + what + ")", x.of(0, what), what == 2 || what == 6 ? NONE : 0);
        }
    }

    private static void rooms() {
        anew("3 rooms");
        due("rooms(0, 6)", x.rooms(0, 6), 2);
        due("rooms(0, 3)", x.rooms(0, 3), 6);
        due("ROOM", x.buffer(0, 1), 3);
        due("ROOM of another", x.buffer(1, 1), 2);
        x.puts(0, 1);
        x.puts(0, 2);
        x.puts(0, 3);
        due("rooms(0, 1)", x.rooms(0, 1), 3);
        items(0, 1, 2, 3);
        due("puts, as many as ROOM or more", x.puts(0, 4), BLOCK);
        x.takes(0);
        due("puts", x.puts(0, 4), BLOCK);
        due("asks", x.asks(5, 0, 0, 7), 0);
        due("rooms serves", x.rooms(0, 3), 1);
        items(0, 2, 3, 7);
        due("WAITS", x.worker(5, 0), 0);
        int[][] wrong = {{3, 1}, {-1, 1}, {LOW, 1}, {HIGH, 1}, {0, 0}, {0, 7}, {0, -1}, {0, LOW}, {0, HIGH}};
        for (int[] w : wrong) {
            refused("rooms(" + w[0] + ", " + w[1] + ")", () -> x.rooms(w[0], w[1]), BAD);
        }
        due("ROOM", x.buffer(0, 1), 3);
        due("STATES", x.told(4), 6);
    }

    private static void station() {
        anew("4 station");
        int[][] wrong = {
            {3, 0, 0, 1, 0}, {-1, 0, 0, 1, 0}, {0, 3, 0, 1, 0}, {0, -2, 0, 1, 0}, {0, 0, 3, 1, 0}, {0, 0, -1, 1, 0},
            {0, 0, 0, 0, 0}, {0, 0, 0, 10, 0}, {0, 0, 0, 1, -1}, {0, 0, 0, 1, 10}, {HIGH, LOW, HIGH, LOW, HIGH},
        };
        for (int[] w : wrong) {
            refused("station", () -> x.station(w[0], w[1], w[2], w[3], w[4]), BAD);
        }
        due("STATES", x.told(4), 0);
        due("station", x.station(2, NONE, 0, 9, 9), 0);
        due("station", x.station(0, 0, 0, 1, 0), 1);
        due("STATES", x.told(4), 2);
        for (int s = 2; s < 6; s++) {
            due("station", x.station(0, 1, 2, 1, 0), s);
        }
        due("STATIONS", x.works(1), 6);
        refused("the seventh", () -> x.station(0, 1, 2, 1, 0), FULL);
        refused("BAD is ahead of FULL", () -> x.station(0, 1, 3, 1, 0), BAD);
        due("STATIONS", x.works(1), 6);
        due("GUARD", x.of(5, 6), NONE);
        due("back()", x.back(), 5);
        due("STATIONS", x.works(1), 5);
    }

    private static void guards() {
        anew("5 guards");
        x.station(0, NONE, 1, 1, 0);
        due("guards(0, 2)", x.guards(0, 2), NONE);
        due("GUARD", x.of(0, 6), 2);
        x.ticks(1);
        gate(2, 1, 0, 1);
        due("UNGUARDED", x.works(3), 0);
        due("guards(0, 0)", x.guards(0, 0), 2);
        x.ticks(1);
        // GUARD, and within it the TAKE that WOULD BLOCK: thrown out of the inner one alone
        gate(0, 3, 2, 2);
        due("guards(0, NONE)", x.guards(0, NONE), 0);
        x.ticks(1);
        due("UNGUARDED", x.works(3), 1);
        int[][] wrong = {{1, 0}, {-1, 0}, {6, 0}, {HIGH, 0}, {LOW, 0}, {0, 3}, {0, -2}, {0, HIGH}, {0, LOW}};
        for (int[] w : wrong) {
            refused("guards(" + w[0] + ", " + w[1] + ")", () -> x.guards(w[0], w[1]), BAD);
        }
        due("back()", x.back(), 5);
        due("back()", x.back(), 4);
        due("GUARD", x.of(0, 6), 0);
    }

    private static void ticksOfOneIn() {
        anew("6 ticks, one IN");
        x.station(0, NONE, 1, 2, 7);
        due("ticks(1)", x.ticks(1), 0);
        due("STARVED", x.of(0, 5), 1);
        gate(0, 1, 1, 1);
        x.puts(0, 5);
        x.puts(0, 6);
        due("ticks(1)", x.ticks(1), 0);
        due("BUSY", x.of(0, 0), 1);
        due("LEFT", x.of(0, 1), 2);
        due("KIND", x.of(0, 2), 2);
        due("ticks(1)", x.ticks(1), 0);
        due("LEFT", x.of(0, 1), 1);
        due("ticks(1)", x.ticks(1), 1);
        due("MADE", x.of(0, 3), 1);
        due("BUSY again in the same TICK", x.of(0, 0), 1);
        due("LEFT", x.of(0, 1), 2);
        due("KIND", x.of(0, 2), 3);
        items(0);
        items(1, 2);
        due("OUTS", x.buffer(0, 3), 2);
        due("INS", x.buffer(1, 2), 1);
        due("PEAK", x.buffer(1, 4), 1);
        due("TICKS", x.works(2), 4);
        due("UNGUARDED", x.works(3), 4);
        due("ticks(30)", x.ticks(30), 1);
        due("TICKS", x.works(2), 34);
        due("STARVED", x.of(0, 5), 1 + 29);
        for (int wrong : new int[] {0, 31, -1, LOW, HIGH}) {
            refused("ticks(" + wrong + ")", () -> x.ticks(wrong), BAD);
        }
        due("TICKS", x.works(2), 34);
        x.keeps(0, 0);
        x.takes(1);
        x.takes(1);
        x.asks(0, 0, 0, 1);
        x.ticks(1);
        due("KEPT IN starves it", x.of(0, 5), 31);
        items(0, 1);
        x.lets(0, 0);
        x.ticks(1);
        items(0);
    }

    private static void ticksOfTwoIns() {
        anew("6 ticks, two INS");
        x.station(1, 0, 2, 1, 9);
        x.puts(1, 8);
        due("ticks(1)", x.ticks(1), 0);
        due("STARVED", x.of(0, 5), 1);
        items(1, 8);
        gate(0, 1, 1, 1);
        gate(1, 2, 1, 1);
        x.puts(0, 6);
        x.keeps(3, 0);
        x.ticks(1);
        due("KEPT: STARVED", x.of(0, 5), 2);
        items(0, 6);
        items(1, 8);
        x.lets(3, 0);
        x.keeps(3, 1);
        x.ticks(1);
        due("KEPT: STARVED", x.of(0, 5), 3);
        x.lets(3, 1);
        x.ticks(1);
        due("BUSY", x.of(0, 0), 1);
        due("KIND", x.of(0, 2), 3);
        due("OUTS of 0", x.buffer(0, 3), 1);
        due("OUTS of 1", x.buffer(1, 3), 1);
        gate(0, 7, 3, 1);
        gate(1, 7, 3, 1);
        due("ticks(1)", x.ticks(1), 1);
        items(2, 3);

        anew("6 ticks, IN 1 the same as IN 0");
        x.station(0, 0, 0, 1, 0);
        x.guards(0, 0);
        x.puts(0, 4);
        x.ticks(1);
        due("it needs another one", x.of(0, 5), 1);
        items(0, 4);
        gate(0, 4, 2, 3);
        x.puts(0, 3);
        x.ticks(1);
        items(0);
        due("OUTS", x.buffer(0, 3), 2);
        due("KIND", x.of(0, 2), 7);
        due("ticks(1)", x.ticks(1), 1);
        items(0, 7);
        due("STARVED", x.of(0, 5), 2);
        due("IDLE: KIND", x.of(0, 2), NONE);
        due("IDLE: LEFT", x.of(0, 1), 0);
        gate(0, 5 + 3 + 1 + 1 + 2, 4, 3);
    }

    private static void ticksHeld() {
        anew("6 ticks, held");
        x.station(0, NONE, 1, 1, 0);
        x.guards(0, 1);
        x.rooms(1, 1);
        x.puts(1, 9);
        x.puts(0, 2);
        x.puts(0, 3);
        x.ticks(1);
        due("ticks(2)", x.ticks(2), 0);
        due("DONE", x.of(0, 0), 2);
        due("LEFT", x.of(0, 1), 0);
        due("KIND", x.of(0, 2), 2);
        due("HELD", x.of(0, 4), 2);
        due("MADE", x.of(0, 3), 0);
        due("STARVED", x.of(0, 5), 0);
        // the PUT, three GUARDS and two that were held: thrown out of OUT's GATE, not the GUARD's
        gate(1, 1 + 3 + 2, 2, 2);
        items(0, 3);
        x.takes(1);
        due("ticks(1)", x.ticks(1), 1);
        items(1, 2);
        items(0);
        due("BUSY", x.of(0, 0), 1);
        x.keeps(4, 1);
        x.takes(1);
        x.asks(4, 1, 1, 0);
        x.ticks(1);
        due("KEPT OUT holds it", x.of(0, 4), 3);
        x.ticks(1);
        due("HELD, though none is there", x.of(0, 4), 4);
        x.lets(4, 1);
        due("ticks(1)", x.ticks(1), 1);
        items(1, 3);

        anew("6 ticks, STATION by STATION");
        x.station(0, NONE, 1, 1, 1);
        x.station(1, NONE, 2, 1, 1);
        x.puts(0, 1);
        x.ticks(1);
        due("the second starves", x.of(1, 5), 1);
        due("ticks(1)", x.ticks(1), 1);
        due("the second took it in the same TICK", x.of(1, 2), 3);
        items(1);
        due("ticks(1)", x.ticks(1), 1);
        items(2, 3);
        due("UNGUARDED", x.works(3), 6);
    }

    private static void ticksServe() {
        anew("6 ticks, SERVING behind each");
        x.station(0, NONE, 1, 1, 0);
        x.puts(0, 5);
        x.asks(0, 0, 0, 6);
        x.asks(0, 0, 0, 7);
        x.asks(2, 1, 1, 0);
        lineIs(0, 2);
        due("ticks(4)", x.ticks(4), 3);
        due("GOT", x.worker(2, 4), 5);
        items(1, 6, 7);
        lineIs();
        due("TICKS", x.works(2), 4);
    }

    private static void puts() {
        anew("7 puts");
        due("puts(2, 0)", x.puts(2, 0), 1);
        due("puts(2, 9)", x.puts(2, 9), 2);
        due("STATES", x.told(4), 2);
        due("puts(2, 5)", x.puts(2, 5), BLOCK);
        due("BLOCK leaves a STATE", x.told(4), 3);
        items(2, 0, 9);
        gate(2, 3, 1, 1);
        due("INS", x.buffer(2, 2), 2);
        due("PEAK", x.buffer(2, 4), 2);
        int[][] wrong = {{3, 0}, {-1, 0}, {LOW, 0}, {HIGH, 0}, {0, 10}, {0, -1}, {0, LOW}, {0, HIGH}};
        for (int[] w : wrong) {
            refused("puts(" + w[0] + ", " + w[1] + ")", () -> x.puts(w[0], w[1]), BAD);
        }
        gate(0, 0, 0, 0);
        due("STATES", x.told(4), 3);
        x.asks(4, 0, 1, 0);
        gate(0, 2, 2, 1);
        due("ahead of SERVING", x.puts(0, 6), 1);
        items(0);
        due("GOT", x.worker(4, 4), 6);
        x.asks(1, 2, 0, 1);
        int tries = x.buffer(2, 5);
        due("puts", x.puts(2, 5), BLOCK);
        due("SERVING behind a BLOCK, too", x.buffer(2, 5), tries + 2);
        x.keeps(3, 1);
        due("KEPT by another one", x.puts(1, 1), BLOCK);
        gate(1, 2, 1, 1);
    }

    private static void takes() {
        anew("8 takes");
        x.rooms(1, 3);
        x.puts(1, 0);
        x.puts(1, 7);
        x.puts(1, 8);
        due("takes(1)", x.takes(1), 0);
        due("takes(1)", x.takes(1), 7);
        items(1, 8);
        due("OUTS", x.buffer(1, 3), 2);
        due("PEAK stays", x.buffer(1, 4), 3);
        due("STATES", x.told(4), 6);
        due("takes(0)", x.takes(0), BLOCK);
        gate(0, 1, 1, 1);
        due("back()", x.back(), 5);
        gate(0, 0, 0, 0);
        for (int wrong : new int[] {3, -1, LOW, HIGH}) {
            refused("takes(" + wrong + ")", () -> x.takes(wrong), BAD);
        }
        x.rooms(1, 1);
        x.asks(0, 1, 0, 4);
        due("takes(1) serves", x.takes(1), 8);
        items(1, 4);
        x.asks(2, 0, 1, 0);
        int tries = x.buffer(0, 5);
        due("takes(0)", x.takes(0), BLOCK);
        due("SERVING behind a BLOCK, too", x.buffer(0, 5), tries + 2);
        x.keeps(3, 1);
        due("KEPT by another one", x.takes(1), BLOCK);
        items(1, 4);
    }

    private static void movesKept() {
        anew("9 moves, kept");
        x.rooms(0, 6);
        x.rooms(1, 6);
        for (int k = 1; k <= 4; k++) {
            x.puts(1, k);
        }
        due("moves(1, 0, 3, 0)", x.moves(1, 0, 3, 0), 3);
        items(0, 1, 2, 3);
        items(1, 4);
        gate(1, 4 + 1 + 3, 0, 2);
        gate(0, 1 + 3, 0, 2);
        due("OUTS", x.buffer(1, 3), 3);
        due("INS", x.buffer(0, 2), 3);
        due("PEAK", x.buffer(0, 4), 3);
        due("a TAKE WOULD BLOCK", x.moves(1, 0, 9, 0), -101);
        items(0, 1, 2, 3, 4);
        gate(1, 8 + 1 + 2, 2, 2);
        gate(0, 4 + 1 + 1, 1, 2);
        due("a PUT WOULD BLOCK", x.moves(0, 2, 3, 0), -102);
        items(0, 3, 4);
        items(2, 1, 2);
        gate(0, 6 + 1 + 3, 2, 2);
        gate(2, 1 + 3, 2, 2);
        due("OUTS stay as they were counted", x.buffer(0, 3), 3);
        due("INS of those that came", x.buffer(2, 2), 2);
        due("none at all", x.moves(1, 0, 1, 0), -100);
        x.puts(0, 5);
        x.puts(0, 6);
        x.puts(0, 7);
        due("that ITEM is the first again", x.moves(0, 2, 1, 0), -100);
        items(0, 3, 4, 5, 6, 7);
        int[][] wrong = {
            {0, 0, 1, 0}, {3, 0, 1, 0}, {0, 3, 1, 0}, {-1, 0, 1, 0}, {0, -1, 1, 0}, {0, 1, 0, 0}, {0, 1, 10, 0},
            {0, 1, 1, 2}, {0, 1, 1, -1}, {LOW, HIGH, LOW, HIGH}, {5, 5, 1, 0},
        };
        int states = x.told(4);
        long entries = x.works(8);
        for (int[] w : wrong) {
            refused("moves", () -> x.moves(w[0], w[1], w[2], w[3]), BAD);
        }
        due("STATES", x.told(4), states);
        due("ENTRIES", x.works(8), entries);
    }

    private static void movesUndone() {
        anew("9 moves, undone");
        x.rooms(0, 3);
        x.puts(0, 1);
        x.puts(0, 2);
        x.puts(0, 3);
        x.puts(1, 8);
        due("moves(0, 1, 2, 1)", x.moves(0, 1, 2, 1), -100);
        items(0, 1, 2, 3);
        items(1, 8);
        due("OUTS stay", x.buffer(0, 3), 2);
        due("INS stay", x.buffer(1, 2), 2);
        due("PEAK stays", x.buffer(1, 4), 2);
        gate(0, 3 + 1 + 2, 1, 2);
        gate(1, 1 + 1 + 2, 2, 2);
        due("it does not end early", x.moves(0, 2, 2, 1), 2);
        items(2, 1, 2);
        items(0, 3);
        due("back()", x.back(), 5);
        items(0, 1, 2, 3);
        due("kept", x.moves(0, 1, 2, 0), -101);
        items(0, 2, 3);
        items(1, 8, 1);

        anew("9 moves, SERVING then, too");
        x.puts(0, 1);
        x.puts(1, 2);
        x.puts(1, 3);
        x.asks(0, 0, 1, 0);
        due("the WISH was done at once", x.worker(0, 4), 1);
        x.asks(0, 0, 1, 0);
        due("moves(1, 0, 1, 0)", x.moves(1, 0, 1, 0), 1);
        due("GOT", x.worker(0, 4), 2);
        items(0);
        x.asks(0, 0, 1, 0);
        due("undone ahead of SERVING", x.moves(1, 0, 2, 1), -100);
        due("WAITS", x.worker(0, 0), 1);
        due("GOT", x.worker(0, 4), 2);
        due("kept ahead of SERVING", x.moves(1, 0, 2, 0), -101);
        due("GOT", x.worker(0, 4), 3);
    }

    private static void movesKeptByWorker() {
        anew("9 moves, KEPT by another one");
        x.puts(0, 4);
        x.puts(0, 5);
        x.keeps(1, 1);
        due("PUT to what is KEPT", x.moves(0, 1, 1, 0), -100);
        items(0, 4, 5);
        gate(0, 2 + 2, 1, 2);
        gate(1, 1 + 2, 2, 2);
        due("OUTS", x.buffer(0, 3), 1);
        x.lets(1, 1);
        x.keeps(1, 0);
        due("TAKE from what is KEPT", x.moves(0, 1, 1, 1), -100);
        items(0, 4, 5);
        due("OUTS", x.buffer(0, 3), 1);
    }

    /** Calls, MOVES, STATIONS and THE TEXT are nobody's, WORKER 0's neither. */
    private static void keptFromNobody() {
        for (int w = 0; w < 6; w++) {
            anew("7 to 9, 6, 26: KEPT by WORKER " + w);
            x.puts(0, 1);
            x.puts(1, 2);
            x.station(1, NONE, 0, 1, 0);
            x.ticks(1);
            x.puts(1, 2);
            x.keeps(w, 0);
            due("puts", x.puts(0, 5), BLOCK);
            due("takes", x.takes(0), BLOCK);
            due("moves from it", x.moves(0, 2, 1, 0), -100);
            due("moves to it", x.moves(1, 0, 1, 0), -100);
            due("ticks", x.ticks(1), 0);
            due("HELD", x.of(0, 4), 1);
            due("p", doing("p0 1"), -1000);
            due("t", doing("t0"), -1000);
            due("m", doing("m0 1 1"), -1000);
            due("his own WISH", x.asks(w, 0, 1, 0), 1);
            due("GOT", x.worker(w, 4), 1);
            due("another one's", x.asks((w + 1) % 6, 0, 0, 4), 0);
        }
    }

    private static void asks() {
        anew("10 asks");
        due("PUT at once", x.asks(0, 1, 0, 9), 1);
        items(1, 9);
        due("TAKE at once", x.asks(0, 1, 1, 3), 1);
        due("GOT", x.worker(0, 4), 9);
        due("WAITS", x.worker(0, 0), 0);
        due("TAKE later", x.asks(5, 1, 1, 7), 0);
        due("STATES", x.told(4), 3);
        due("WAITS", x.worker(5, 0), 1);
        due("k counts for nothing", x.worker(5, 3), NONE);
        due("it is tried, then served", x.buffer(1, 6), 2);
        refused("it WAITS", () -> x.asks(5, 0, 0, 1), NO);
        items(0);
        int[][] wrong = {
            {6, 0, 0, 0}, {-1, 0, 0, 0}, {0, 3, 0, 0}, {0, -1, 0, 0}, {0, 0, 2, 0}, {0, 0, -1, 0}, {0, 0, 0, 10},
            {0, 0, 0, -1}, {0, 0, 1, 10}, {0, 0, 1, -1}, {HIGH, LOW, HIGH, LOW}, {5, 0, 0, 10},
        };
        for (int[] w : wrong) {
            refused("asks", () -> x.asks(w[0], w[1], w[2], w[3]), BAD);
        }
        due("NO once", x.told(1), 1);
        due("STATES", x.told(4), 3);
        due("back()", x.back(), 2);
        due("WAITS no more", x.worker(5, 0), 0);
        due("back()", x.back(), 1);
        items(1, 9);
        due("GOT", x.worker(0, 4), NONE);
    }

    private static void asksAndServing() {
        anew("10 asks, SERVING");
        x.rooms(0, 1);
        x.puts(0, 1);
        due("asks", x.asks(0, 1, 1, 0), 0);
        due("asks", x.asks(1, 0, 0, 5), 0);
        due("asks", x.asks(2, 0, 0, 6), 0);
        lineIs(0, 1, 2);
        int tries0 = x.buffer(0, 5);
        int tries1 = x.buffer(1, 5);
        due("a TAKE at once serves the others", x.asks(3, 0, 1, 0), 1);
        items(0, 5);
        lineIs(0, 2);
        // the TAKE, worker 1 served, then from the first again: worker 2 not
        due("tries at 0", x.buffer(0, 5), tries0 + 1 + 1 + 1);
        due("tries at 1", x.buffer(1, 5), tries1 + 2);
        due("a PUT at once serves the first", x.asks(4, 1, 0, 3), 1);
        due("GOT", x.worker(0, 4), 3);
        lineIs(2);

        anew("10 asks, one done lets one ahead of it be done");
        x.rooms(0, 1);
        x.puts(0, 1);
        x.asks(0, 0, 0, 2);
        x.asks(1, 1, 1, 0);
        x.keeps(5, 0);
        x.asks(5, 2, 1, 0);
        lineIs(0, 1, 5);
        x.cancels(5);
        due("asks of the KEEPER", x.asks(5, 0, 1, 0), 1);
        lineIs(0, 1);
        due("the KEEPER lets", x.lets(5, 0), 0);
        lineIs(1);
        items(0, 2);
        x.asks(2, 0, 0, 8);
        x.asks(3, 0, 1, 0);
        // 3 took 2, then 2 put 8
        due("GOT", x.worker(3, 4), 2);
        items(0, 8);
        lineIs(1);
        for (int w : new int[] {0, 2, 3, 4, 5}) {
            due("asks", x.asks(w, 2, 1, 0), 0);
        }
        lineIs(1, 0, 2, 3, 4, 5);
        due("puts", x.puts(2, 6), 1);
        lineIs(1, 2, 3, 4, 5);
        due("GOT", x.worker(0, 4), 6);

        anew("10 asks, all begins again with the first");
        x.puts(0, 3);
        x.puts(0, 4);
        x.keeps(0, 0);
        x.asks(1, 0, 0, 5);
        x.asks(2, 0, 1, 0);
        lineIs(1, 2);
        int tries = x.buffer(0, 5);
        due("lets", x.lets(0, 0), 0);
        // the GATE for lets; 1 blocks, 2 takes, 1 puts
        due("tries", x.buffer(0, 5), tries + 1 + 3);
        due("GOT", x.worker(2, 4), 3);
        items(0, 4, 5);
        lineIs();
    }

    private static void asksOfKeeper() {
        anew("10 asks, KEPT");
        x.keeps(2, 0);
        due("the KEEPER's own WISH", x.asks(2, 0, 0, 4), 1);
        due("another one's", x.asks(3, 0, 0, 5), 0);
        due("another one's", x.asks(4, 0, 1, 0), 0);
        items(0, 4);
        due("his own", x.asks(2, 0, 1, 0), 1);
        due("GOT", x.worker(2, 4), 4);
        due("he waits, though he keeps it", x.asks(2, 0, 1, 0), 0);
        lineIs(3, 4, 2);
        x.keeps(5, 1);
        due("keeps", x.keeps(1, 1), BLOCK);
        due("in a QUEUE he may ask", x.asks(1, 2, 0, 7), 1);
        due("WORKER 0 is a WORKER like the others", x.keeps(0, 2), 1);
        due("takes", x.takes(2), BLOCK);
        due("asks", x.asks(0, 2, 1, 0), 1);
        due("GOT", x.worker(0, 4), 7);
    }

    private static void cancels() {
        anew("11 cancels");
        x.asks(3, 0, 1, 0);
        x.asks(1, 0, 1, 0);
        x.asks(2, 0, 1, 0);
        int entries = x.works(8);
        due("cancels(1)", x.cancels(1), 2);
        lineIs(3, 2);
        for (int what = 0; what < 5; what++) {
            due("worker(1, " + what + ")", x.worker(1, what), what == 0 ? 0 : NONE);
        }
        due("no SERVING", x.works(8), entries);
        due("STATES", x.told(4), 4);
        refused("it does not", () -> x.cancels(1), NO);
        refused("nor does that", () -> x.cancels(0), NO);
        for (int wrong : new int[] {6, -1, LOW, HIGH}) {
            refused("cancels(" + wrong + ")", () -> x.cancels(wrong), BAD);
        }
        due("cancels(3)", x.cancels(3), 1);
        due("cancels(2)", x.cancels(2), 0);
        lineIs();
        x.puts(0, 5);
        items(0, 5);
        due("back()", x.back(), 5);
        due("back()", x.back(), 4);
        lineIs(2);
    }

    private static void keeps() {
        anew("12 keeps");
        due("keeps(4, 1)", x.keeps(4, 1), 1);
        due("once more", x.keeps(4, 1), 2);
        due("another one", x.keeps(4, 0), 1);
        due("KEEPER", x.keeper(1, 0), 4);
        due("KEPT", x.keeper(1, 1), 2);
        gate(1, 2, 0, 1);
        due("keeps(5, 1)", x.keeps(5, 1), BLOCK);
        // entered and left: nothing is thrown out of the GATE
        gate(1, 3, 0, 1);
        due("STATES", x.told(4), 4);
        due("keeps(0, 1)", x.keeps(0, 1), BLOCK);
        due("queue(1, 0)", x.queue(1, 0), 5);
        due("queue(1, 1)", x.queue(1, 1), 0);
        refused("in a QUEUE", () -> x.keeps(5, 1), NO);
        refused("in a QUEUE of another", () -> x.keeps(5, 2), NO);
        gate(2, 0, 0, 0);
        int[][] wrong = {{6, 0}, {-1, 0}, {LOW, 0}, {HIGH, 0}, {0, 3}, {0, -1}, {5, 3}, {0, LOW}, {0, HIGH}};
        for (int[] w : wrong) {
            refused("keeps(" + w[0] + ", " + w[1] + ")", () -> x.keeps(w[0], w[1]), BAD);
        }
        due("STATES", x.told(4), 5);
        x.asks(3, 2, 1, 0);
        int tries = x.buffer(2, 5);
        due("who WAITS may keep", x.keeps(3, 2), 1);
        due("no SERVING", x.buffer(2, 5), tries + 1);
        due("back()", x.back(), 5);
        due("KEEPER", x.keeper(2, 0), NONE);
    }

    private static void lets() {
        anew("13 lets");
        x.keeps(0, 2);
        x.keeps(0, 2);
        x.keeps(3, 2);
        x.keeps(1, 2);
        due("lets(0, 2)", x.lets(0, 2), 1);
        due("KEEPER", x.keeper(2, 0), 0);
        due("KEPT", x.keeper(2, 1), 1);
        gate(2, 5, 0, 1);
        due("lets(0, 2)", x.lets(0, 2), 0);
        due("the first of the QUEUE", x.keeper(2, 0), 3);
        due("KEPT", x.keeper(2, 1), 1);
        due("QUEUE", x.keeper(2, 2), 1);
        due("queue(2, 0)", x.queue(2, 0), 1);
        refused("not its KEEPER", () -> x.lets(0, 2), NO);
        refused("nor he in the QUEUE", () -> x.lets(1, 2), NO);
        refused("none is", () -> x.lets(0, 0), NO);
        gate(2, 6, 0, 1);
        int[][] wrong = {{6, 2}, {-1, 2}, {-1, 0}, {LOW, 2}, {HIGH, 2}, {3, 3}, {3, -1}, {3, LOW}, {3, HIGH}};
        for (int[] w : wrong) {
            refused("lets(" + w[0] + ", " + w[1] + ")", () -> x.lets(w[0], w[1]), BAD);
        }
        due("lets(3, 2)", x.lets(3, 2), 0);
        due("lets(1, 2)", x.lets(1, 2), 0);
        due("KEEPER", x.keeper(2, 0), NONE);
        due("KEPT", x.keeper(2, 1), 0);
        due("who left the QUEUE may keep anew", x.keeps(1, 2), 1);
        due("back()", x.back(), 5);
        due("back()", x.back(), 4);
        due("KEEPER", x.keeper(2, 0), 1);
    }

    private static void letsServes() {
        anew("13 lets, SERVING");
        x.puts(0, 6);
        x.keeps(0, 0);
        x.keeps(0, 0);
        x.keeps(1, 0);
        x.asks(2, 0, 1, 0);
        x.asks(1, 0, 1, 0);
        int tries = x.buffer(0, 5);
        due("lets", x.lets(0, 0), 1);
        due("SERVING, though it is KEPT yet", x.buffer(0, 5), tries + 3);
        due("lets", x.lets(0, 0), 0);
        due("the new KEEPER's WISH", x.worker(1, 4), 6);
        lineIs(2);
        due("lets", x.lets(1, 0), 0);
        lineIs(2);
        x.puts(0, 8);
        due("GOT", x.worker(2, 4), 8);
    }

    private static void quits() {
        anew("14 quits");
        x.keeps(0, 1);
        x.keeps(2, 1);
        x.keeps(3, 1);
        x.keeps(4, 1);
        int entries = x.works(8);
        due("quits(3)", x.quits(3), 1);
        due("queue(1, 0)", x.queue(1, 0), 2);
        due("queue(1, 1)", x.queue(1, 1), 4);
        due("queue(1, 2)", x.queue(1, 2), NONE);
        due("no GATE", x.works(8), entries);
        due("STATES", x.told(4), 5);
        refused("in none", () -> x.quits(3), NO);
        refused("a KEEPER is in none", () -> x.quits(0), NO);
        for (int wrong : new int[] {6, -1, LOW, HIGH}) {
            refused("quits(" + wrong + ")", () -> x.quits(wrong), BAD);
        }
        due("quits(2)", x.quits(2), 1);
        due("keeps(2, 0)", x.keeps(2, 0), 1);
        due("keeps(3, 0)", x.keeps(3, 0), BLOCK);
        due("quits(3)", x.quits(3), 0);
        due("back()", x.back(), 5);
        due("queue(0, 0)", x.queue(0, 0), 3);
    }

    private static void keeper() {
        anew("15 keeper");
        x.keeps(5, 2);
        x.keeps(5, 2);
        x.keeps(5, 2);
        x.keeps(0, 2);
        x.keeps(1, 2);
        due("keeper(2, 0)", x.keeper(2, 0), 5);
        due("keeper(2, 1)", x.keeper(2, 1), 3);
        due("keeper(2, 2)", x.keeper(2, 2), 2);
        due("keeper(0, 0)", x.keeper(0, 0), NONE);
        due("keeper(0, 1)", x.keeper(0, 1), 0);
        due("keeper(0, 2)", x.keeper(0, 2), 0);
        int[][] wrong = {{3, 0}, {-1, 0}, {LOW, 0}, {HIGH, 0}, {0, 3}, {0, -1}, {0, LOW}, {0, HIGH}};
        for (int[] w : wrong) {
            refused("keeper(" + w[0] + ", " + w[1] + ")", () -> x.keeper(w[0], w[1]), BAD);
        }
        due("STATES", x.told(4), 5);
    }

    private static void queue() {
        anew("16 queue");
        x.keeps(0, 0);
        for (int w = 5; w > 0; w--) {
            due("keeps", x.keeps(w, 0), BLOCK);
        }
        for (int i = 0; i < 5; i++) {
            due("queue(0, " + i + ")", x.queue(0, i), 5 - i);
        }
        due("queue(0, 5)", x.queue(0, 5), NONE);
        due("queue(0, 6)", x.queue(0, 6), NONE);
        due("queue(0, HIGH)", x.queue(0, HIGH), NONE);
        due("queue(1, 0)", x.queue(1, 0), NONE);
        int[][] wrong = {{0, -1}, {0, LOW}, {3, 0}, {-1, 0}, {HIGH, 0}, {LOW, 0}};
        for (int[] w : wrong) {
            refused("queue(" + w[0] + ", " + w[1] + ")", () -> x.queue(w[0], w[1]), BAD);
        }
    }

    private static void stuck() {
        anew("17 stuck");
        x.begins(6);
        for (int w = 0; w < 6; w++) {
            x.keeps(w, w);
        }
        due("stuck()", x.stuck(), 0);
        x.keeps(1, 2);
        x.keeps(2, 3);
        due("a chain", x.stuck(), 0);
        x.keeps(3, 1);
        due("a ring of three", x.stuck(), 0b001110);
        x.keeps(4, 1);
        due("he leads to it, but is not in it", x.stuck(), 0b001110);
        x.keeps(5, 0);
        x.keeps(0, 5);
        due("and a ring of two", x.stuck(), 0b101111);
        x.quits(2);
        due("quits", x.stuck(), 0b100001);
        due("back()", x.back(), 5);
        due("stuck()", x.stuck(), 0b101111);
        anew("17 stuck, all");
        x.begins(6);
        for (int w = 0; w < 6; w++) {
            x.keeps(w, w);
        }
        for (int w = 0; w < 6; w++) {
            due("stuck()", x.stuck(), 0);
            x.keeps(w, (w + 1) % 6);
        }
        due("a ring of six", x.stuck(), 0b111111);
    }

    private static void buffer() {
        anew("18 buffer");
        x.rooms(1, 4);
        x.puts(1, 1);
        x.puts(1, 2);
        x.puts(1, 3);
        x.takes(1);
        x.moves(1, 0, 3, 0);
        int[] want = {0, 4, 3, 3, 3, 4 + 1 + 3, 2, 2};
        for (int what = 0; what < 8; what++) {
            due("buffer(1, " + what + ")", x.buffer(1, what), want[what]);
        }
        int[][] wrong = {{3, 0}, {-1, 0}, {LOW, 0}, {HIGH, 0}, {0, 8}, {0, -1}, {0, LOW}, {0, HIGH}};
        for (int[] w : wrong) {
            refused("buffer(" + w[0] + ", " + w[1] + ")", () -> x.buffer(w[0], w[1]), BAD);
        }
        due("STATES", x.told(4), 6);
    }

    private static void item() {
        anew("19 item");
        x.rooms(2, 6);
        for (int k = 0; k < 6; k++) {
            x.puts(2, 9 - k);
        }
        items(2, 9, 8, 7, 6, 5, 4);
        due("item(2, HIGH)", x.item(2, HIGH), NONE);
        due("item(0, 0)", x.item(0, 0), NONE);
        int[][] wrong = {{2, -1}, {2, LOW}, {3, 0}, {-1, 0}, {HIGH, 0}, {LOW, 0}};
        for (int[] w : wrong) {
            refused("item(" + w[0] + ", " + w[1] + ")", () -> x.item(w[0], w[1]), BAD);
        }
    }

    private static void of() {
        anew("20 of");
        x.station(0, NONE, 1, 3, 0);
        x.station(0, 1, 2, 3, 0);
        x.guards(1, 2);
        x.puts(0, 8);
        x.ticks(2);
        int[] busy = {1, 2, 8, 0, 0, 0, NONE};
        int[] idle = {0, 0, NONE, 0, 0, 2, 2};
        for (int what = 0; what < 7; what++) {
            due("of(0, " + what + ")", x.of(0, what), busy[what]);
            due("of(1, " + what + ")", x.of(1, what), idle[what]);
        }
        x.rooms(1, 1);
        x.puts(1, 0);
        x.keeps(0, 1);
        x.ticks(3);
        int[] done = {2, 0, 8, 0, 2, 0, NONE};
        for (int what = 0; what < 7; what++) {
            due("of(0, " + what + ")", x.of(0, what), done[what]);
        }
        int[][] wrong = {{2, 0}, {-1, 0}, {LOW, 0}, {HIGH, 0}, {0, 7}, {0, -1}, {0, LOW}, {0, HIGH}, {6, 0}};
        for (int[] w : wrong) {
            refused("of(" + w[0] + ", " + w[1] + ")", () -> x.of(w[0], w[1]), BAD);
        }
    }

    private static void worker() {
        anew("21 worker");
        x.puts(1, 4);
        x.puts(1, 0);
        x.asks(5, 1, 0, 8);
        int[] puts = {1, 1, 0, 8, NONE};
        x.asks(0, 2, 1, 8);
        int[] takes = {1, 2, 1, NONE, NONE};
        x.asks(3, 1, 1, 8);
        int[] got = {0, NONE, NONE, NONE, 4};
        int[] done = {0, NONE, NONE, NONE, NONE};
        for (int what = 0; what < 5; what++) {
            due("worker(5, " + what + ")", x.worker(5, what), done[what]);
            due("worker(0, " + what + ")", x.worker(0, what), takes[what]);
            due("worker(3, " + what + ")", x.worker(3, what), got[what]);
        }
        x.asks(5, 1, 0, 8);
        for (int what = 0; what < 5; what++) {
            due("worker(5, " + what + ")", x.worker(5, what), puts[what]);
        }
        x.asks(3, 1, 1, 0);
        due("GOT, the last", x.worker(3, 4), 0);
        int[][] wrong = {{6, 0}, {-1, 0}, {LOW, 0}, {HIGH, 0}, {0, 5}, {0, -1}, {0, LOW}, {0, HIGH}};
        for (int[] w : wrong) {
            refused("worker(" + w[0] + ", " + w[1] + ")", () -> x.worker(w[0], w[1]), BAD);
        }
    }

    private static void line() {
        anew("22 line");
        for (int w : new int[] {3, 0, 5, 1, 4, 2}) {
            x.asks(w, 0, 1, 0);
        }
        lineIs(3, 0, 5, 1, 4, 2);
        due("line(HIGH)", x.line(HIGH), NONE);
        refused("line(-1)", () -> x.line(-1), BAD);
        refused("line(LOW)", () -> x.line(LOW), BAD);
        x.puts(0, 1);
        lineIs(0, 5, 1, 4, 2);
        x.asks(3, 0, 1, 0);
        lineIs(0, 5, 1, 4, 2, 3);
        x.cancels(1);
        lineIs(0, 5, 4, 2, 3);
    }

    private static void works() {
        anew("23 works");
        x.begins(4);
        x.station(0, NONE, 1, 1, 0);
        x.station(0, NONE, 1, 1, 0);
        x.guards(1, 3);
        x.ticks(3);
        doing("p0 1(p0 2)(t3)p3 4");
        x.asks(0, 2, 1, 0);
        // BUFFER 0: 2 x 3 TAKES, 2 PUTS; 3: 3 GUARDS, a TAKE, a PUT; 2: 2 TAKES; MASTER: 3
        int[] want = {4, 2, 3, 3, 3, 1, 2, 3, 6 + 2 + 3 + 2 + 2 + 3, 1};
        for (int what = 0; what < 10; what++) {
            due("works(" + what + ")", x.works(what), want[what]);
        }
        for (int wrong : new int[] {10, -1, LOW, HIGH}) {
            refused("works(" + wrong + ")", () -> x.works(wrong), BAD);
        }
    }

    private static void type() {
        anew("24 type");
        due("type(0)", x.type(0), 1);
        due("type(127)", x.type(127), 2);
        for (int wrong : new int[] {-1, 128, LOW, HIGH}) {
            refused("type(" + wrong + ")", () -> x.type(wrong), BAD);
        }
        for (int i = 3; i <= 120; i++) {
            due("type(32)", x.type(32), i);
        }
        refused("type(32)", () -> x.type(32), FULL);
        refused("BAD is ahead of FULL", () -> x.type(128), BAD);
        due("bytes", x.told(3), 120);
        due("STATES", x.told(4), 0);
        due("does()", x.does(), -10);
        x.clear();
        due("type(32)", x.type(32), 1);
        due("does()", x.does(), -11);
    }

    private static void clear() {
        anew("25 clear");
        due("clear()", x.clear(), 0);
        x.type('p');
        x.type('0');
        due("clear()", x.clear(), 2);
        due("clear()", x.clear(), 0);
        due("bytes", x.told(3), 0);
        due("STATES", x.told(4), 0);
        x.type('t');
        x.type('0');
        due("does()", x.does(), -1000);
    }

    private static void doesFaults() {
        anew("26 does, FAULTS");
        String[] texts = {
            "", " ", "   ", "x", " x", "p", "p ", "p0", "p0 ", "p0 1x", "pp", "p(", "p)", "p0(1", "p0 1 2", "t", "tt", "t0 1",
            "m", "m0", "m01", "m01 ", "m01)", "(", "()(", "( ", ")", "())", "(p0 1))", "((((()))))", "(((( (", "((((", "P0 1",
            "p0 1\t", "p0 1\u0000", "p/1", "p:1", "p0 a", "1", "(1)", "p01()t0()m011()()", "(t0",
        };
        int[] faults = {
            0, 1, 3, 0, 1, 1, 2, 2, 3, 4, 1, 1, 1, 2, 5, 1, 1, 3,
            1, 2, 3, 4, 3, 1, 3, 2, 0, 2, 6, 4, 5, 4, 0,
            4, 4, 1, 1, 3, 0, 1, NONE, 3,
        };
        due("as many texts as FAULTS", texts.length, faults.length);
        for (int i = 0; i < texts.length; i++) {
            anew("26 does, FAULTS");
            int answer = doing(texts[i]);
            if (faults[i] != NONE) {
                due("does() of '" + texts[i] + "'", answer, -10 - faults[i]);
                master(0, 0, 0);
                due("nothing is done", x.works(8), 0);
                due("no S", x.told(4), 0);
                due("no refusal", x.told(0) + x.told(1) + x.told(2), 0);
            }
        }
        anew("26 does, none of them a FAULT");
        due("does()", doing("  p 0   1 ( ) ((( ( t 0 ))) ) m 0 1 0 p22 "), 4);
        items(2, 2);
    }

    private static void doesOrders() {
        anew("26 does, ORDERS");
        due("p", doing("p2 7"), 1);
        items(2, 7);
        master(1, 0, 1);
        due("STATES", x.told(4), 1);
        due("THE TEXT stays", x.told(3), 4);
        due("once more", x.does(), 1);
        items(2, 7, 7);
        due("it ends", x.does(), -1000);
        due("S, though it ended", x.told(4), 3);
        items(2, 7, 7);
        gate(2, 3, 1, 1);
        master(3, 1, 1);
        due("t", doing("t2p20"), 2);
        items(2, 7, 0);
        due("m", doing("m2 0 2"), 1);
        items(0, 7, 0);
        gate(2, 5 + 3, 1, 2);
        gate(0, 3, 0, 2);
        due("m 0", doing("m0 1 0"), 1);
        gate(0, 4, 0, 2);
        gate(1, 1, 0, 1);
        due("m 9", doing("m0 1 9"), -1000);
        items(0, 7, 0);
        items(1);
        gate(0, 4 + 1 + 3, 2, 2);
        gate(1, 1 + 1 + 2, 1, 2);
        due("INS stay", x.buffer(1, 2), 2);
        due("back()", x.back(), 5);
        gate(1, 1, 0, 1);
        due("THE TEXT is not among STATES", x.told(3), 6);
    }

    private static void doesGroups() {
        anew("26 does, GROUPS");
        due("done and not undone", doing("p0 1(p0 2(p1 3)p1 4)(p2 5 t1 t1 t1 p2 6)t0"), 5);
        items(0, 2);
        items(1, 3, 4);
        items(2);
        master(4, 1, 3);
        due("back()", x.back(), 0);
        due("an inner one that was done is undone with the outer", doing("p0 1(p0 2(p1 3)(p1 4)t2)"), 1);
        items(0, 1);
        items(1);
        master(4, 1, 3);
        due("INS stay", x.buffer(1, 2), 2);
        due("PEAK stays", x.buffer(1, 4), 2);
        due("back()", x.back(), 0);
        due("an inner one undone, the outer goes on", doing("(p0 1(p0 2 t1 (p1 1) p1 1)p0 3)p1 9"), 3);
        items(0, 1, 3);
        items(1, 9);
        master(3, 1, 3);
        due("back()", x.back(), 0);
        due("5 deep", doing("((((p0 1(t9)))))"), -10 - 8);
        due("5 deep", doing("((((p0 1))))((((t9))))"), 1);
        master(9, 1, 5);
        due("GROUPS of none", doing("()(()())"), 0);
        master(9 + 5, 1, 5);
    }

    private static void doesThrown() {
        anew("26 does, thrown");
        due("come to ahead of that", doing("p0 1(t1 p0 9)p0 2(p1 1 p1 1 m0 2 2)t5 p0 1"), -1006);
        items(0);
        items(1);
        items(2);
        master(3, 2, 2);
        due("STATES", x.told(4), 1);
        String[] none = {"p3 1", "t3", "m0 3 1", "m3 0 1", "m1 1 0", "m9 9 9", "p9 9", "t8"};
        int entries = x.works(8);
        for (int i = 0; i < none.length; i++) {
            due("does() of " + none[i], doing(none[i]), -1000);
            due("no GATE of a BUFFER", x.works(8), entries + i + 1);
            due("MASTER GATE", x.works(5), 3 + i);
        }
        due("a GROUP of it", doing("(m0 0 1)p0 3"), 1);
        x.keeps(1, 0);
        due("KEPT", doing("t0"), -1000);
        due("KEPT", doing("p0 1"), -1000);
        due("KEPT", doing("p1 1 m0 1 1"), -1001);
        items(0, 3);
        items(1);
    }

    private static void doesServes() {
        anew("26 does, SERVING");
        x.asks(1, 0, 1, 0);
        int tries = x.buffer(0, 5);
        due("does()", doing("p0 4 t0 p0 5"), 3);
        due("GOT, behind all of THE TEXT", x.worker(1, 4), 5);
        due("tries", x.buffer(0, 5), tries + 3 + 1);
        x.asks(1, 0, 1, 0);
        tries = x.buffer(0, 5);
        due("does()", doing("p0 4 t9"), -1001);
        due("SERVING, though it ended", x.buffer(0, 5), tries + 2);
        due("WAITS", x.worker(1, 0), 1);
        tries = x.buffer(0, 5);
        due("does()", doing("t9t"), -13);
        due("a FAULT: no SERVING", x.buffer(0, 5), tries);
    }

    private static void back() {
        anew("27 back");
        refused("none", () -> x.back(), NO);
        for (int k = 0; k < 5; k++) {
            x.puts(0, k);
            x.takes(0);
        }
        due("STATES", x.told(4), 6);
        for (int i = 5; i >= 0; i--) {
            due("back()", x.back(), i);
            items(0, i % 2 == 1 ? new int[] {(i + 3) / 2} : new int[0]);
        }
        refused("none", () -> x.back(), NO);
        due("OUTS", x.buffer(0, 3), 2);
        due("puts", x.puts(0, 9), 1);
        due("STATES", x.told(4), 1);
        due("back()", x.back(), 0);
        items(0);
        x.type('t');
        x.type('9');
        x.does();
        x.takes(77);
        due("back()", x.back(), 0);
        due("THE TEXT", x.told(3), 2);
        due("BAD", x.told(0), 1);
        due("NO", x.told(1), 2);
        due("MASTER GATE", x.works(4), 0);
    }

    /** Every call told S leaves a STATE with all that was: the digest, but for how often refused and STATES. */
    private static void backTellsAll() {
        anew("27 back, all that was");
        x.begins(4);
        x.station(0, 1, 2, 2, 3);
        x.station(2, NONE, 3, 1, 4);
        x.guards(0, 2);
        x.rooms(0, 5);
        x.puts(0, 1);
        x.puts(0, 2);
        x.puts(1, 3);
        x.keeps(0, 3);
        x.keeps(1, 3);
        x.asks(2, 3, 0, 5);
        x.asks(3, 0, 1, 0);
        doing("p0 1(t3)");
        x.ticks(2);
        long was = x.digest();
        Runnable[] calls = {
            () -> x.begins(2), () -> x.rooms(3, 1), () -> x.station(0, 0, 0, 9, 9), () -> x.guards(0, NONE),
            () -> x.ticks(7), () -> x.puts(0, 3), () -> x.puts(3, 3), () -> x.takes(0), () -> x.moves(0, 1, 2, 0),
            () -> x.moves(0, 1, 9, 1), () -> x.asks(4, 0, 0, 4), () -> x.cancels(2), () -> x.keeps(4, 0),
            () -> x.keeps(4, 3), () -> x.lets(0, 3), () -> x.quits(1), () -> x.does(),
        };
        for (int i = 0; i < calls.length; i++) {
            calls[i].run();
            DUE.holds("call " + i + " changes something", x.digest() != was);
            due("back() of call " + i, x.back(), 5);
            x.guards(0, 2);
            due("digest behind back() of call " + i, x.digest(), was);
        }
    }

    private static void backToStations() {
        anew("27 back, to what STATIONS were");
        x.station(0, 2, 1, 2, 3);
        x.puts(0, 4);
        x.puts(2, 5);
        x.begins(3);
        x.station(1, NONE, 2, 9, 9);
        due("back()", x.back(), 4);
        due("back()", x.back(), 3);
        due("ticks", x.ticks(3), 1);
        items(0);
        items(1, 2);
        items(2);
    }

    private static void told() {
        anew("28 told");
        x.begins(0);
        x.begins(0);
        x.begins(0);
        x.cancels(0);
        x.cancels(0);
        for (int i = 0; i < 6; i++) {
            x.station(0, NONE, 0, 1, 0);
        }
        x.station(0, NONE, 0, 1, 0);
        x.type(1);
        x.type(2);
        x.type(3);
        x.type(4);
        x.back();
        int[] want = {3, 2, 1, 4, 5};
        for (int what = 0; what < 5; what++) {
            due("told(" + what + ")", x.told(what), want[what]);
        }
        refused("told(5)", () -> x.told(5), BAD);
        refused("told(-1)", () -> x.told(-1), BAD);
        refused("told(LOW)", () -> x.told(LOW), BAD);
        refused("told(HIGH)", () -> x.told(HIGH), BAD);
        due("puts that BLOCKS", x.takes(0), BLOCK);
        due("is no refusal", x.told(1), 2);
    }

    private static long h;

    private static void mix(long v) {
        h = 31 * h + v;
    }

    private static void digest() {
        anew("29 digest");
        x.begins(2);
        x.puts(1, 7);
        x.puts(1, 8);
        x.station(1, NONE, 0, 4, 5);
        x.guards(0, 1);
        x.asks(3, 0, 1, 0);
        x.asks(2, 1, 0, 6);
        x.keeps(4, 0);
        x.keeps(5, 0);
        x.keeps(0, 1);
        x.keeps(4, 1);
        x.keeps(0, 0);
        x.type('p');
        x.puts(0, 10);
        h = 1932;
        for (int what = 0; what < 5; what++) {
            mix(x.told(what));
        }
        for (int what = 0; what < 10; what++) {
            mix(x.works(what));
        }
        for (int b = 0; b < 2; b++) {
            for (int what = 0; what < 8; what++) {
                mix(x.buffer(b, what));
            }
            for (int i = 0; i < x.buffer(b, 0); i++) {
                mix(x.item(b, i));
            }
            for (int what = 0; what < 3; what++) {
                mix(x.keeper(b, what));
            }
            for (int i = 0; i < x.keeper(b, 2); i++) {
                mix(x.queue(b, i));
            }
        }
        for (int what = 0; what < 7; what++) {
            mix(x.of(0, what));
        }
        for (int w = 0; w < 6; w++) {
            for (int what = 0; what < 5; what++) {
                mix(x.worker(w, what));
            }
        }
        mix(3);
        mix(2);
        mix(0b10001);
        due("digest()", x.digest(), h);
        due("digest() changes nothing", x.digest(), h);
        due("stuck()", x.stuck(), 0b10001);
    }
}
