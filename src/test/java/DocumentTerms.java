/** The document ahead of its promises: "What it is", "The public face" and "Terms". */
final class DocumentTerms {
    private final Document doc;

    DocumentTerms(Document doc) {
        this.doc = doc;
    }

    void goThrough() {
        whatItIs();
        face();
        buffersAndGates();
        putting();
        taking();
        keeping();
        moving();
        undoing();
        stationsAre();
        ticking();
        delivering();
        loading();
        workers();
        serving();
        orders();
        groups();
        faults();
        states();
        refusals();
    }

    private void whatItIs() {
        doc.names("# GatedWorks ## What it is");
        doc.says("Works of buffers and stations behind gates: buffers that hold so many, calls that answer that they would block;", """
            puts 0 1 = 1; puts 0 2 = 2; puts 0 3 = BLOCK; takes 1 = BLOCK
            """);
        doc.says("stations that take, work, put, are held and starve;", """
            station 0 NONE 1 1 0 = 0; rooms 1 1 = 2; puts 0 4 = 1; puts 0 5 = 2
            ticks 1 = 0; items 0 = 5; of 0 0 = 1; ticks 1 = 1; items 1 = 4; ticks 1 = 0; of 0 4 = 1; takes 1 = 4
            ticks 1 = 1; items 1 = 5; of 0 5 = 1
            """);
        doc.says("workers that wait in a line until what they wish can be done;", """
            asks 3 0 1 0 = 0; waiting = 3; puts 0 7 = 1; waiting =; worker 3 4 = 7
            """);
        doc.says("many moved at once, kept or undone;", """
            puts 0 1 = 1; puts 0 2 = 2; moves 0 1 2 0 = 2; items 1 = 1 2
            moves 1 0 3 1 = -100; items 1 = 1 2; moves 1 0 3 0 = -102; items 0 = 1 2
            """);
        doc.says("groups of orders within one another, undone when one would block;", """
            doing 'p01(p02(p13t2)t0)' = 3; items 0 = 2; items 1 =
            """);
        doc.says("gates counted: how often entered, how deep, how often left by what was thrown.", """
            puts 0 1 = 1; takes 0 = 1; gate 0 = 2 0 1; moves 0 1 1 0 = -100; gate 0 = 4 2 2
            """);
        doc.names("======== 1 THE WORKS have BUFFERS 0 ..");
        doc.says("An object is used for at most 512 calls after it has been made; what later calls answer is free.",
            "puts 0 1 = 1; takes 0 = 1;".repeat(256));
    }

    /** RulesTest holds the class against these. */
    private void face() {
        doc.names("## The public face");
        doc.names("""
            ```java
            public final class GatedWorks {
                public static final int NONE = -1, BAD = -2, NO = -3, FULL = -4, BLOCK = -5;
                public GatedWorks();
                public int begins(int n);
                public int rooms(int b, int v);
                public int station(int in0, int in1, int out, int time, int add);
                public int guards(int s, int b);
                public int ticks(int n);
                public int puts(int b, int k);
                public int takes(int b);
                public int moves(int a, int b, int n, int undo);
                public int asks(int w, int b, int wish, int k);
                public int cancels(int w);
                public int keeps(int w, int b);
                public int lets(int w, int b);
                public int quits(int w);
                public int keeper(int b, int what);
                public int queue(int b, int i);
                public int stuck();
                public int buffer(int b, int what);
                public int item(int b, int i);
                public int of(int s, int what);
                public int worker(int w, int what);
                public int line(int i);
                public int works(int what);
                public int type(int c);
                public int clear();
                public int does();
                public int back();
                public int told(int what);
                public long digest();
            }
            ```
            """);
        doc.names("## Terms");
    }

    private void buffersAndGates() {
        doc.says("N less 1 (N 1 .. 6; 3 at first),",
            "works 0 = 3; puts 2 1 = 1; puts 3 1 = BAD; puts -1 1 = BAD",
            "begins 1 = 3; puts 0 1 = 1; puts 1 1 = BAD; begins 6 = 1; puts 5 1 = 1; puts 6 1 = BAD; begins 0 = BAD; begins 7 = BAD");
        doc.says("each with ITEMS in a row (KINDS 0 .. 9),", """
            items 0 =; puts 0 9 = 1; puts 0 0 = 2; puts 1 4 = 1; items 0 = 9 0; items 1 = 4; items 2 =; puts 2 10 = BAD; puts 2 -1 = BAD
            """);
        doc.says("at most its ROOM (1 .. 6; 2 at first);",
            "buffer 0 1 = 2; buffer 2 1 = 2; puts 2 1 = 1; puts 2 2 = 2; puts 2 3 = BLOCK",
            "rooms 0 1 = 2; puts 0 1 = 1; puts 0 2 = BLOCK; rooms 0 0 = BAD; rooms 0 7 = BAD; buffer 1 1 = 2", """
            rooms 0 6 = 2; puts 0 1 = 1; puts 0 2 = 2; puts 0 3 = 3; puts 0 4 = 4; puts 0 5 = 5; puts 0 6 = 6; puts 0 7 = BLOCK
            """);
        doc.says("a GATE of its own; and there is a MASTER GATE.", """
            puts 1 1 = 1; gate 0 = 0 0 0; gate 1 = 1 0 1; gate 2 = 0 0 0; master = 0 0 0
            doing 't2' = -1000; gate 0 = 0 0 0; gate 1 = 1 0 1; gate 2 = 1 1 1; master = 1 1 1
            """);
        doc.says("Each GATE counts: ENTRIES;", """
            puts 0 1 = 1; takes 0 = 1; takes 0 = BLOCK; keeps 0 0 = 1; lets 0 0 = 0; buffer 0 5 = 5; doing '()' = 0; works 4 = 2; works 8 = 7
            """);
        doc.says("DEPTH (how often it is entered and not left yet), of that the DEEPEST ever;", """
            buffer 0 7 = 0; takes 0 = BLOCK; buffer 0 7 = 1; moves 0 1 1 0 = -100; buffer 0 7 = 2; buffer 1 7 = 1
            station 0 0 1 1 0 = 0; guards 0 0 = NONE; ticks 1 = 0; buffer 0 7 = 3; takes 0 = BLOCK; buffer 0 7 = 3
            """, "doing 't9' = -1000; works 6 = 1; doing '((t9))' = 0; works 6 = 3; doing '(((())))' = 0; works 6 = 5; doing '()' = 0; works 6 = 5");
        doc.says("THROWN (how often it was left because something WOULD BLOCK within).", """
            puts 0 1 = 1; takes 0 = 1; buffer 0 6 = 0; takes 0 = BLOCK; buffer 0 6 = 1; moves 0 1 1 0 = -100; buffer 0 6 = 3; buffer 1 6 = 1
            doing '(t9)p01' = 1; works 5 = 1; buffer 0 6 = 3
            """);
    }

    private void putting() {
        doc.names("```text");
        doc.says("To PUT a KIND to a BUFFER: its GATE is entered;", "puts 0 3 = 1; gate 0 = 1 0 1; puts 0 3 = 2; puts 0 3 = BLOCK; gate 0 = 3 1 1");
        doc.says("if it has as many ITEMS as ROOM or more,", """
            rooms 0 3 = 2; puts 0 1 = 1; puts 0 2 = 2; puts 0 3 = 3; puts 0 4 = BLOCK
            rooms 0 2 = 3; puts 0 4 = BLOCK; takes 0 = 1; puts 0 4 = BLOCK; takes 0 = 2; puts 0 4 = 2
            """);
        doc.says("or is KEPT by another one, it WOULD BLOCK;", """
            keeps 2 0 = 1; puts 0 1 = BLOCK; asks 3 0 0 1 = 0; asks 2 0 0 1 = 1; items 0 = 1; buffer 0 2 = 1; gate 0 = 6 4 1
            """);
        doc.says("else the KIND is the last of its row,", "rooms 0 3 = 2; puts 0 8 = 1; puts 0 3 = 2; puts 0 5 = 3; items 0 = 8 3 5");
        doc.says("INS are one more,", "puts 0 8 = 1; buffer 0 2 = 1; puts 0 8 = 2; buffer 0 2 = 2; puts 0 8 = BLOCK; buffer 0 2 = 2; buffer 1 2 = 0");
        doc.says("PEAK (the most ITEMS it ever had) is told anew;", """
            puts 0 1 = 1; buffer 0 4 = 1; puts 0 2 = 2; buffer 0 4 = 2; takes 0 = 1; takes 0 = 2; puts 0 3 = 1; buffer 0 4 = 2; buffer 1 4 = 0
            """, "puts 0 1 = 1; keeps 0 1 = 1; moves 0 1 1 0 = -100; items 0 = 1; puts 0 2 = 2; buffer 0 4 = 2");
        doc.says("the GATE is left.", "puts 0 1 = 1; puts 0 2 = 2; puts 0 3 = BLOCK; puts 0 3 = BLOCK; gate 0 = 4 2 1");
    }

    private void taking() {
        doc.says("To TAKE from a BUFFER: its GATE is entered;", "puts 0 1 = 1; takes 0 = 1; gate 0 = 2 0 1; takes 0 = BLOCK; gate 0 = 3 1 1");
        doc.says("without ITEMS, or KEPT by another one, it WOULD BLOCK;", """
            takes 0 = BLOCK; puts 0 1 = 1; keeps 2 0 = 1; takes 0 = BLOCK; asks 3 0 1 0 = 0; items 0 = 1; buffer 0 3 = 0; gate 0 = 6 4 1
            asks 2 0 1 0 = 1; items 0 =; buffer 0 3 = 1
            """);
        doc.says("else its first ITEM goes, OUTS are one more;", """
            puts 0 1 = 1; puts 0 2 = 2; takes 0 = 1; items 0 = 2; buffer 0 3 = 1; takes 0 = 2; items 0 =; buffer 0 3 = 2
            takes 0 = BLOCK; buffer 0 3 = 2; buffer 1 3 = 0
            """);
        doc.says("the GATE is left.", "puts 0 1 = 1; takes 0 = 1; takes 0 = BLOCK; takes 0 = BLOCK; gate 0 = 4 2 1");
        doc.says("""
            What WOULD BLOCK is thrown: out of that GATE, and of all that were entered around it, innermost first, up to where that
            is told to end (each counts THROWN).
            """,
            "takes 0 = BLOCK; gate 0 = 1 1 1", "moves 1 0 1 0 = -100; gate 0 = 1 1 1; gate 1 = 2 2 2; gate 2 = 0 0 0",
            "doing 'm101' = -1000; gate 0 = 1 1 1; gate 1 = 2 2 2; master = 1 1 1",
            "doing '((m101)p01)' = 1; gate 0 = 2 1 1; gate 1 = 2 2 2; master = 3 1 3",
            "station 0 NONE 1 1 0 = 0; guards 0 2 = NONE; ticks 1 = 0; gate 0 = 1 1 1; gate 2 = 1 0 1");
    }

    private void keeping() {
        doc.says("KEEPER of a BUFFER: a WORKER or none (at first); it has KEPT it so often, 0 without one.", """
            keeper 0 0 = NONE; keeper 0 1 = 0; keeps 4 0 = 1; keeper 0 0 = 4; keeper 0 1 = 1; keeps 4 0 = 2; keeper 0 1 = 2
            lets 4 0 = 1; keeper 0 1 = 1; lets 4 0 = 0; keeper 0 0 = NONE; keeper 0 1 = 0; keeper 1 0 = NONE
            """);
        doc.says("QUEUE of a BUFFER: WORKERS that wait to keep it, as they came;", """
            queued 0 =; keeps 0 0 = 1; keeps 5 0 = BLOCK; keeps 2 0 = BLOCK; keeps 3 0 = BLOCK; queued 0 = 5 2 3; queued 1 =
            """);
        doc.says("a WORKER is in one QUEUE at most.", """
            keeps 0 0 = 1; keeps 1 1 = 1; keeps 5 0 = BLOCK; keeps 5 1 = NO; keeps 5 0 = NO; queued 0 = 5; queued 1 =
            quits 5 = 0; keeps 5 1 = BLOCK; queued 0 =; queued 1 = 5
            """);
        doc.says("KEPT by another one: there is a KEEPER, and the PUT or TAKE is not of his own WISH", """
            puts 0 1 = 1; keeps 3 0 = 1; asks 2 0 1 0 = 0; asks 4 0 0 6 = 0; items 0 = 1
            asks 3 0 0 2 = 1; asks 3 0 1 0 = 1; worker 3 4 = 1; items 0 = 2; waiting = 2 4
            """);
        doc.says("(those of calls, MOVES, STATIONS, THE TEXT are nobody's).", """
            puts 0 1 = 1; puts 1 5 = 1; keeps 0 0 = 1; puts 0 2 = BLOCK; takes 0 = BLOCK; moves 0 1 1 0 = -100; moves 1 0 1 0 = -100
            doing 'p01' = -1000; doing 't0' = -1000; doing 'm011' = -1000; doing 'm101' = -1000; items 0 = 1; items 1 = 5
            """, """
            station 0 NONE 1 1 0 = 0; station 2 NONE 0 1 0 = 1; puts 0 4 = 1; puts 2 5 = 1; keeps 0 0 = 1
            ticks 2 = 0; of 0 5 = 2; of 1 4 = 1; items 0 = 4
            """);
        doc.says("STUCK: a WORKER in the QUEUE of a BUFFER whose KEEPER is in a QUEUE, and so on from KEEPER to KEEPER till it is he himself.", """
            keeps 0 0 = 1; keeps 1 1 = 1; keeps 5 2 = 1; keeps 0 1 = BLOCK; stuck = 0; keeps 2 0 = BLOCK; stuck = 0
            keeps 1 2 = BLOCK; stuck = 0; keeps 5 0 = BLOCK; stuck = 0b100011
            """);
    }

    private void moving() {
        doc.says("To MOVE n ITEMS from a to another BUFFER b: the GATE of the lesser of both is entered, within it that of the other one;",
            "doing 'm200' = 1; gate 0 = 1 0 1; gate 1 = 0 0 0; gate 2 = 1 0 1", "moves 1 1 1 0 = BAD; doing 'm110' = -1000; gate 1 = 0 0 0",
            "moves 2 0 1 0 = -100; gate 0 = 1 1 1; gate 2 = 2 2 2");
        doc.says("then, n times, one is TAKEN from a, the same is PUT to b (the GATES being entered anew within for that).", """
            rooms 0 3 = 2; puts 0 7 = 1; puts 0 8 = 2; puts 0 9 = 3; moves 0 1 2 0 = 2; items 0 = 9; items 1 = 7 8
            buffer 0 3 = 2; buffer 1 2 = 2; buffer 1 4 = 2; gate 0 = 6 0 2; gate 1 = 3 0 2
            """);
        doc.says("If a PUT WOULD BLOCK, that ITEM is the first of a again;", """
            rooms 1 1 = 2; puts 0 7 = 1; puts 0 8 = 2; moves 0 1 2 0 = -101; items 0 = 8; puts 0 9 = 2; moves 0 1 1 0 = -100; items 0 = 8 9
            """);
        doc.says("by a TAKE or PUT that WOULD BLOCK it ends, thrown out of both outer GATES, too (each counts THROWN):",
            "puts 0 7 = 1; moves 0 1 3 0 = -101; gate 0 = 4 2 2; gate 1 = 2 1 2",
            "puts 0 7 = 1; puts 1 1 = 1; puts 1 2 = 2; moves 0 1 3 0 = -100; gate 0 = 3 1 2; gate 1 = 4 2 2");
        doc.says("those moved stay so,", "puts 0 7 = 1; puts 0 8 = 2; moves 0 1 3 0 = -102; items 0 =; items 1 = 7 8");
    }

    private void undoing() {
        doc.says("or ITEMS of a and b are as they were ahead (UNDONE).", """
            puts 0 7 = 1; puts 0 8 = 2; puts 1 9 = 1; puts 2 6 = 1; moves 0 1 2 1 = -100; items 0 = 7 8; items 1 = 9; items 2 = 6
            """);
        doc.says("(INS, OUTS, PEAK and all other counts stay as they were counted, here and wherever something is undone;", """
            puts 0 7 = 1; moves 0 1 2 1 = -100; items 0 = 7; buffer 0 3 = 1; buffer 1 2 = 1; buffer 1 4 = 1; gate 0 = 4 2 2; gate 1 = 2 1 2
            """, "rooms 1 1 = 2; puts 0 7 = 1; puts 1 8 = 1; moves 0 1 1 0 = -100; buffer 0 2 = 1; buffer 0 3 = 1; buffer 1 2 = 1", """
            doing '(p01p02t0t9)' = 0; items 0 =; buffer 0 2 = 2; buffer 0 3 = 1; buffer 0 4 = 2; gate 0 = 3 0 1; master = 2 1 2
            doing 'p11t1t9' = -1002; items 1 =; buffer 1 2 = 1; buffer 1 3 = 1; buffer 1 4 = 1; gate 1 = 2 0 1; master = 3 2 2
            """);
        doc.says("PEAK is told anew by a PUT alone.)", """
            rooms 0 3 = 2; puts 0 1 = 1; puts 0 2 = 2; takes 0 = 1; buffer 0 4 = 2; rooms 0 1 = 3; rooms 0 6 = 1; buffer 0 4 = 2
            doing '(t0t0)' = 0; buffer 0 4 = 2; puts 0 3 = 2; puts 0 4 = 3; buffer 0 4 = 3
            """);
    }

    private void stationsAre() {
        doc.says("STATIONS 0 .. 5, as they come:", """
            station 0 NONE 1 1 0 = 0; station 0 NONE 1 1 0 = 1; station 0 NONE 1 1 0 = 2; station 0 NONE 1 1 0 = 3
            station 0 NONE 1 1 0 = 4; station 0 NONE 1 1 0 = 5; station 0 NONE 1 1 0 = FULL; of 5 0 = 0; of 6 0 = BAD
            """);
        doc.says("IN 0, IN 1 (or none), OUT (BUFFERS, perhaps the same),", """
            station 0 0 0 1 0 = 0; station 2 NONE 2 1 0 = 1; station 0 1 2 1 0 = 2; station 3 1 2 1 0 = BAD; station 0 3 2 1 0 = BAD
            station 0 1 3 1 0 = BAD; station NONE 1 2 1 0 = BAD; station 0 1 NONE 1 0 = BAD; station 0 -2 1 1 0 = BAD
            """);
        doc.says("TIME (1 .. 9), ADD (0 .. 9),", """
            station 0 1 2 1 0 = 0; station 0 1 2 9 9 = 1; station 0 1 2 0 0 = BAD; station 0 1 2 10 0 = BAD; station 0 1 2 1 -1 = BAD
            station 0 1 2 1 10 = BAD
            """);
        doc.says("a GUARD (a BUFFER whose GATE that is, or none; none at first),", """
            station 0 NONE 1 1 0 = 0; of 0 6 = NONE; ticks 1 = 0; gate 2 = 0 0 0; guards 0 2 = NONE; of 0 6 = 2; ticks 1 = 0; gate 2 = 1 0 1
            guards 0 NONE = 2; of 0 6 = NONE; ticks 1 = 0; gate 2 = 1 0 1
            """);
        doc.says("IDLE (0), BUSY (1) or DONE (2);", """
            station 0 NONE 1 1 0 = 0; of 0 0 = 0; puts 0 4 = 1; ticks 1 = 0; of 0 0 = 1; keeps 0 1 = 1; ticks 1 = 0; of 0 0 = 2
            lets 0 1 = 0; ticks 1 = 1; of 0 0 = 0
            """);
        doc.says("LEFT; a KIND; MADE, HELD, STARVED (counts).", """
            station 0 NONE 1 3 1 = 0; of 0 1 = 0; of 0 2 = NONE; of 0 3 = 0; of 0 4 = 0; of 0 5 = 0
            puts 0 4 = 1; ticks 1 = 0; of 0 1 = 3; of 0 2 = 5; keeps 0 1 = 1; ticks 5 = 0; of 0 4 = 3; lets 0 1 = 0
            ticks 2 = 1; of 0 1 = 0; of 0 2 = NONE; of 0 3 = 1; of 0 4 = 3; of 0 5 = 2
            """);
    }

    private void ticking() {
        doc.says("A TICK: STATION by STATION:",
            "station 0 NONE 1 1 0 = 0; station 1 NONE 2 1 0 = 1; puts 0 5 = 1; ticks 2 = 1; items 1 =; of 1 2 = 5",
            "station 1 NONE 2 1 0 = 0; station 0 NONE 1 1 0 = 1; puts 0 5 = 1; ticks 2 = 1; items 1 = 5; of 0 0 = 0");
        doc.says("if it has a GUARD, that GATE is entered, and left behind all this;",
            "station 0 0 1 1 0 = 0; guards 0 0 = NONE; ticks 1 = 0; gate 0 = 3 2 3; ticks 1 = 0; gate 0 = 6 4 3",
            "station 0 NONE 1 1 0 = 0; guards 0 1 = NONE; puts 0 4 = 1; ticks 2 = 1; gate 1 = 3 0 2; works 3 = 0");
        doc.says("else UNGUARDED is one more.", """
            station 0 NONE 1 1 0 = 0; ticks 1 = 0; works 3 = 1; station 0 NONE 1 1 0 = 1; ticks 1 = 0; works 3 = 3
            guards 0 2 = NONE; ticks 4 = 0; works 3 = 7
            """);
        doc.says("Within: BUSY: LEFT is one less;", """
            station 0 NONE 1 3 0 = 0; puts 0 4 = 1; ticks 1 = 0; of 0 1 = 3; ticks 1 = 0; of 0 1 = 2; of 0 0 = 1; ticks 1 = 0; of 0 1 = 1
            """);
        doc.says("if that is 0, it is DONE.", """
            station 0 NONE 1 2 0 = 0; puts 0 4 = 1; keeps 0 1 = 1; ticks 2 = 0; of 0 0 = 1; of 0 1 = 1; ticks 1 = 0; of 0 0 = 2; of 0 1 = 0; of 0 2 = 4
            """);
    }

    private void delivering() {
        doc.says("Then, if DONE: it PUTS its KIND to OUT;", """
            station 0 NONE 1 1 3 = 0; puts 0 4 = 1; ticks 1 = 0; items 1 =; ticks 1 = 1; items 1 = 7; buffer 1 2 = 1; buffer 1 4 = 1; gate 1 = 1 0 1
            """);
        doc.says("IDLE then, MADE one more;", """
            station 0 NONE 1 1 3 = 0; puts 0 4 = 1; ticks 2 = 1; of 0 0 = 0; of 0 1 = 0; of 0 2 = NONE; of 0 3 = 1; ticks 3 = 0; of 0 3 = 1
            """);
        doc.says("if that WOULD BLOCK, it ends there (by leaving OUT's GATE, not the GUARD's), HELD one more.", """
            station 0 NONE 1 1 0 = 0; guards 0 2 = NONE; rooms 1 1 = 2; puts 1 9 = 1; puts 0 4 = 1; puts 0 5 = 2; ticks 3 = 0
            of 0 0 = 2; of 0 2 = 4; of 0 3 = 0; of 0 4 = 2; of 0 5 = 0; items 0 = 5; items 1 = 9; gate 1 = 3 2 1; gate 2 = 3 0 1
            """, "station 0 NONE 1 1 0 = 0; guards 0 1 = NONE; keeps 5 1 = 1; puts 0 4 = 1; ticks 2 = 0; of 0 4 = 1; gate 1 = 4 1 2");
    }

    private void loading() {
        doc.says("Then, if IDLE: without IN 1 it TAKES from IN 0;", """
            station 0 NONE 1 1 0 = 0; puts 0 4 = 1; puts 0 5 = 2; ticks 1 = 0; items 0 = 5; buffer 0 3 = 1; of 0 2 = 4; gate 0 = 3 0 1
            ticks 1 = 1; items 0 =; of 0 2 = 5; items 1 = 4; ticks 1 = 1; gate 0 = 5 1 1
            """);
        doc.says("with it the lesser one's GATE is entered, within it the other one's (the same is entered twice);",
            "station 2 0 1 1 0 = 0; ticks 1 = 0; gate 0 = 1 1 1; gate 1 = 0 0 0; gate 2 = 1 1 1",
            "station 0 0 1 1 0 = 0; ticks 1 = 0; gate 0 = 2 2 2; gate 1 = 0 0 0");
        doc.says("it needs an ITEM of IN 0 and another one of IN 1, each the first then,", """
            station 0 1 2 1 0 = 0; puts 0 3 = 1; puts 0 9 = 2; ticks 1 = 0; of 0 0 = 0; puts 1 4 = 1; puts 1 8 = 2; ticks 1 = 0
            items 0 = 9; items 1 = 8; of 0 0 = 1; of 0 2 = 7
            """, """
            station 0 0 1 1 0 = 0; rooms 0 3 = 2; puts 0 3 = 1; ticks 1 = 0; items 0 = 3; of 0 0 = 0; puts 0 4 = 2; puts 0 8 = 3; ticks 1 = 0
            items 0 = 8; of 0 0 = 1; of 0 2 = 7
            """);
        doc.says("and neither may be KEPT;", """
            station 0 1 2 1 0 = 0; puts 0 3 = 1; puts 1 4 = 1; keeps 0 0 = 1; ticks 1 = 0; of 0 5 = 1; lets 0 0 = 0
            keeps 0 1 = 1; ticks 1 = 0; of 0 5 = 2; of 0 0 = 0; items 0 = 3; items 1 = 4; lets 0 1 = 0; keeps 0 2 = 1; ticks 1 = 0; of 0 0 = 1
            """);
        doc.says("if not so, nothing goes, it WOULD BLOCK, which ends outside these GATES: STARVED one more;", """
            station 0 1 2 1 0 = 0; guards 0 0 = NONE; puts 0 3 = 1; ticks 1 = 0; items 0 = 3; buffer 0 3 = 0; of 0 0 = 0; of 0 5 = 1
            gate 0 = 3 1 2; gate 1 = 1 1 1; ticks 4 = 0; of 0 5 = 5; of 0 4 = 0
            """, "station 0 NONE 1 1 0 = 0; guards 0 0 = NONE; ticks 3 = 0; of 0 5 = 3; of 0 0 = 0; gate 0 = 6 3 2");
        doc.says("else what it needs goes (OUTS), it is BUSY, LEFT is TIME, KIND what their KINDS and ADD are together, by 10 left over.", """
            station 0 1 2 9 8 = 0; puts 0 7 = 1; puts 1 6 = 1; ticks 1 = 0; items 0 =; items 1 =; buffer 0 3 = 1; buffer 1 3 = 1
            of 0 0 = 1; of 0 1 = 9; of 0 2 = 1; of 0 5 = 0
            """, "station 0 0 1 4 0 = 0; puts 0 4 = 1; puts 0 5 = 2; ticks 1 = 0; items 0 =; buffer 0 3 = 2; of 0 1 = 4; of 0 2 = 9",
            "station 0 NONE 1 4 9 = 0; puts 0 1 = 1; ticks 1 = 0; items 0 =; buffer 0 3 = 1; of 0 0 = 1; of 0 1 = 4; of 0 2 = 0");
        doc.names("```");
    }

    private void workers() {
        doc.says("======== 2 WORKERS 0 .. 5:", """
            worker 0 0 = 0; worker 5 0 = 0; worker 6 0 = BAD; worker -1 0 = BAD; keeps 5 0 = 1; keeps 6 1 = BAD; asks 0 1 1 0 = 0; asks 6 1 1 0 = BAD
            """);
        doc.says("a WISH (0 to PUT a KIND, 1 to TAKE) at a BUFFER, if it WAITS;", """
            keeps 5 1 = 1; asks 0 1 0 7 = 0; asks 1 1 1 7 = 0; worker 0 1 = 1; worker 0 2 = 0; worker 0 3 = 7; worker 1 1 = 1; worker 1 2 = 1
            worker 1 3 = NONE; worker 2 1 = NONE; worker 2 2 = NONE; worker 2 3 = NONE
            lets 5 1 = 0; worker 0 1 = NONE; worker 0 2 = NONE; worker 0 3 = NONE; worker 1 4 = 7
            """);
        doc.says("GOT: the KIND that it TOOK last by a WISH (NONE at first).", """
            worker 1 4 = NONE; puts 0 7 = 1; puts 0 3 = 2; asks 1 0 1 0 = 1; worker 1 4 = 7; asks 1 0 1 0 = 1; worker 1 4 = 3; worker 2 4 = NONE
            asks 1 0 0 5 = 1; worker 1 4 = 3; takes 0 = 5; worker 1 4 = 3; asks 1 0 1 0 = 0; worker 1 4 = 3; puts 0 0 = 1; worker 1 4 = 0
            """);
        doc.says("THE LINE: all that WAIT, as they came.", """
            waiting =; asks 3 0 1 0 = 0; asks 1 1 1 0 = 0; asks 5 0 1 0 = 0; waiting = 3 1 5; puts 1 4 = 1; waiting = 3 5; asks 1 0 1 0 = 0; waiting = 3 5 1
            """);
    }

    private void serving() {
        doc.says("SERVING: from the first of THE LINE on each one's WISH is tried (PUT, TAKE, which counts as told; what WOULD BLOCK ends there);", """
            asks 3 0 1 0 = 0; asks 1 1 1 0 = 0; gate 0 = 3 3 1; gate 1 = 2 2 1; takes 2 = BLOCK; gate 0 = 4 4 1; gate 1 = 3 3 1
            puts 0 6 = 1; worker 3 4 = 6; buffer 0 3 = 1; gate 0 = 6 4 1; gate 1 = 4 4 1; gate 2 = 1 1 1
            """, "asks 5 0 1 0 = 0; asks 0 0 1 0 = 0; puts 0 3 = 1; worker 5 4 = 3; worker 0 4 = NONE; waiting = 0");
        doc.says("when one could be done it WAITS no more, and all begins again with the first;", """
            puts 0 3 = 1; puts 0 4 = 2; keeps 0 0 = 1; asks 1 0 0 5 = 0; asks 2 0 1 0 = 0; asks 3 1 1 0 = 0; lets 0 0 = 0
            worker 1 0 = 0; worker 2 0 = 0; worker 2 4 = 3; items 0 = 4 5; waiting = 3; gate 0 = 14 8 1; gate 1 = 3 3 1
            """);
        doc.says("it ends when none of all could.", """
            keeps 5 0 = 1; rooms 0 6 = 2; asks 0 0 0 1 = 0; asks 1 0 0 2 = 0; asks 2 0 1 0 = 0; asks 3 1 1 0 = 0; asks 4 0 1 0 = 0
            lets 5 0 = 0; waiting = 3; worker 2 4 = 1; worker 4 4 = 2; items 0 =; buffer 0 4 = 2
            """);
    }

    private void orders() {
        doc.names("```text");
        doc.says("THE TEXT (120 bytes at most) tells ORDERS:", "types '" + " ".repeat(117) + "'; type 112 = 118; type 48 = 119; type 55 = 120; type 32 = FULL; does = 1; items 0 = 7");
        doc.says("p b k (PUT KIND k to b),", "doing 'p27' = 1; items 2 = 7; buffer 2 2 = 1; gate 2 = 1 0 1");
        doc.says("t b (TAKE from b),", "puts 2 7 = 1; puts 2 8 = 2; doing 't2' = 1; items 2 = 8; buffer 2 3 = 1; gate 2 = 3 0 1");
        doc.says("m a b n (MOVE n, 0 .. 9, from a to b),", """
            puts 0 7 = 1; puts 0 8 = 2; doing 'm022' = 1; items 0 =; items 2 = 7 8; gate 0 = 5 0 2; gate 2 = 3 0 2
            doing 'm020' = 1; gate 0 = 6 0 2; gate 2 = 4 0 2; doing 'm209' = -1000; items 2 = 7 8; items 0 =
            """);
        doc.says("( ORDERS ) a GROUP (perhaps of none), within one another 4 deep at most;",
            "doing '()' = 0; doing '(p01p02)' = 2; doing '((((t0))))' = 1; items 0 = 2; doing '((((()))))' = -14; doing '(((()))(()))' = 0");
        doc.says("numbers are one figure;", "doing 'p0 10' = -14; doing 't00' = -12; doing 'p01' = 1; doing 'p0 9' = 1; items 0 = 1 9; doing 'tx' = -11; doing 'p0 ' = -13");
        doc.says("blanks (32) may stand anywhere.", "doing '  p 0   1 ( t 0 ) ' = 2; items 0 =; doing 'p0 2m  0 1   1' = 2; items 1 = 2; types 't1'; type 9 = 3; does = -12");
    }

    private void groups() {
        doc.says("A GROUP, and all of THE TEXT, enter the MASTER GATE, do their ORDERS one by one, and leave it.", """
            doing 'p01(p02)t0' = 3; items 0 = 2; master = 2 0 2; doing '(p03)' = 1; items 0 = 2 3; master = 4 0 2; doing '(())()' = 0; master = 8 0 3
            """);
        doc.says("An ORDER that WOULD BLOCK (a MOVE that ends early, too;",
            "doing 't0' = -1000; doing 'p01p02p03' = -1002; items 0 =; doing 'p01m012' = -1001; items 0 =; items 1 =; gate 1 = 2 1 2; master = 3 3 1",
            "puts 1 8 = 1; puts 1 9 = 2; doing '(p07m011)' = 0; items 0 =; items 1 = 8 9; gate 1 = 4 2 2; master = 2 1 2");
        doc.says("or whose BUFFER is not there, or a is b: this throws likewise, no GATE of a BUFFER being entered)", """
            doing 'p30' = -1000; doing 't3' = -1000; doing 'm031' = -1000; doing 'm301' = -1000; doing 'm110' = -1000; doing '(t9)' = 0
            master = 7 6 2; works 8 = 7
            """);
        doc.says("is thrown out of the GROUP: all ITEMS of all BUFFERS are as they were when the GROUP was entered (counts stay), it is passed over;", """
            puts 2 9 = 1; doing 'p01(t0t2p13t2p14)p02' = 2; items 0 = 1 2; items 1 =; items 2 = 9; master = 2 1 2
            buffer 0 3 = 1; buffer 1 2 = 1; buffer 2 3 = 1; gate 2 = 3 1 1
            """, "doing '(p01(t9(p02)()t0)p03)p14' = 3; items 0 = 1 3; items 1 = 4; master = 3 1 3");
        doc.says("of THE TEXT itself: likewise, and it ends.", """
            puts 2 9 = 1; doing 'p01(p12)t2t2p15(p16)' = -1003; items 0 =; items 1 =; items 2 = 9; master = 2 1 2; buffer 1 2 = 1; gate 2 = 3 1 1
            """);
    }

    private void faults() {
        doc.says("FAULT: the place of the first byte that can not stand there (a ( within 4 others);",
            "doing 'p01x' = -13; doing ')' = -10; doing 'p(' = -11; doing '((((p01(' = -17; doing '(p01))x' = -15; doing 'm0 x1' = -13");
        doc.says("the TEXT's length, if it ends too early (an empty one, too).", "doing '' = -10; doing 'p0' = -12; doing '(t0' = -13; doing 'm 0 1 ' = -16; doing '((' = -12");
        doc.says("If there is one, nothing is done.", """
            asks 0 1 1 0 = 0; gate 1 = 2 2 1; doing 'p01p12x' = -16; items 0 =; items 1 =; master = 0 0 0; gate 0 = 0 0 0; gate 1 = 2 2 1
            waiting = 0; told 4 = 1; told 0 = 0
            """);
    }

    private void states() {
        doc.says("STATES: each call told S, if it is not refused, leaves one to go back to", """
            told 4 = 0; puts 0 1 = 1; told 4 = 1; puts 0 10 = BAD; told 4 = 1; takes 1 = BLOCK; told 4 = 2; item 0 0 = 1; told 4 = 2
            back = 1; gate 1 = 0 0 0; back = 0; items 0 =
            """);
        doc.says("(all that was, counts of all GATES, too; not THE TEXT, how often refused),", """
            station 0 NONE 1 1 0 = 0; guards 0 2 = NONE; asks 4 1 1 0 = 0; doing '(t9)p07' = 1; keeps 3 2 = 1; mark
            begins 1 = 3; differs; back = 5; same; gate 0 = 1 0 1; master = 2 1 2; gate 2 = 1 0 1; waiting = 4; keeper 2 0 = 3; items 0 = 7; of 0 6 = 2
            """, "types 'p0'; puts 0 1 = 1; type 53 = 3; puts 9 9 = BAD; quits 0 = NO; back = 0; told 3 = 3; told 0 = 1; told 1 = 1; does = 1; items 0 = 5");
        doc.says("6 at most, older ones lost.", """
            rooms 0 6 = 2; puts 0 1 = 1; puts 0 2 = 2; puts 0 3 = 3; puts 0 4 = 4; puts 0 5 = 5; told 4 = 6; puts 0 6 = 6; told 4 = 6
            back = 5; back = 4; back = 3; back = 2; back = 1; items 0 = 1; back = 0; items 0 =; buffer 0 1 = 6; back = NO
            """);
    }

    private void refusals() {
        doc.says("Refused, changing nothing but how often, the first of: BAD -2 a number is not as told; NO -3, FULL -4 as told.", """
            asks 2 1 1 0 = 0; told 0 = 0; asks 2 1 1 10 = -2; told 0 = 1; told 1 = 0; asks 2 1 1 0 = -3; told 1 = 1; waiting = 2; gate 1 = 2 2 1
            station 0 NONE 1 1 0 = 0; station 0 NONE 1 1 0 = 1; station 0 NONE 1 1 0 = 2; station 0 NONE 1 1 0 = 3; station 0 NONE 1 1 0 = 4
            station 0 NONE 1 1 0 = 5; station 0 NONE 1 1 0 = -4; told 2 = 1; station 0 NONE 1 0 0 = -2; told 0 = 2; told 2 = 1; told 4 = 6
            """);
        doc.says("BLOCK -5 is no refusal.", "takes 0 = -5; keeps 0 1 = 1; keeps 1 1 = -5; puts 1 0 = -5; told 0 = 0; told 1 = 0; told 2 = 0; told 4 = 4");
        doc.names("```");
        doc.names("Ahead of the calls `begins`, `rooms`, `station`, `guards`, `ticks` the interface says: ---- the works.");
        doc.names("Ahead of the calls `puts`, `takes`, `moves`, `asks`, `cancels` the interface says: ---- calls that would block.");
        doc.names("Ahead of the calls `keeps`, `lets`, `quits`, `keeper`, `queue`, `stuck` the interface says: ---- keeping.");
        doc.names("Ahead of the calls `buffer`, `item`, `of`, `worker`, `line`, `works` the interface says: ---- told.");
        doc.names("Ahead of the calls `type`, `clear`, `does`, `back`, `told`, `digest` the interface says: ---- texts.");
    }
}
