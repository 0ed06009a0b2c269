/** The 29 promises of the document, and "Not promised". */
final class DocumentPromises {
    private final Document doc;

    DocumentPromises(Document doc) {
        this.doc = doc;
    }

    void goThrough() {
        newObject();
        begins();
        rooms();
        station();
        guards();
        ticks();
        puts();
        takes();
        moves();
        asks();
        cancels();
        keeps();
        lets();
        quits();
        keeperAndQueue();
        stuck();
        buffer();
        item();
        of();
        worker();
        line();
        works();
        type();
        clear();
        does();
        back();
        told();
        digest();
        notPromised();
    }

    private void newObject() {
        doc.names("## Promise 1: A new object");
        doc.says("`GatedWorks()`: As told.", """
            works 0 = 3; works 1 = 0; works 2 = 0; works 3 = 0; master = 0 0 0; works 7 = 0; works 8 = 0; works 9 = 0; stuck = 0; waiting =
            items 0 =; buffer 0 1 = 2; buffer 0 2 = 0; buffer 0 3 = 0; buffer 0 4 = 0; gate 0 = 0 0 0; keeper 0 0 = NONE; keeper 0 1 = 0; queued 0 =
            items 2 =; buffer 2 1 = 2; buffer 2 2 = 0; buffer 2 3 = 0; buffer 2 4 = 0; gate 2 = 0 0 0; keeper 2 0 = NONE; keeper 2 1 = 0; queued 2 =
            worker 0 0 = 0; worker 0 1 = NONE; worker 0 2 = NONE; worker 0 3 = NONE; worker 0 4 = NONE; worker 5 0 = 0; worker 5 4 = NONE
            told 0 = 0; told 1 = 0; told 2 = 0; told 3 = 0; told 4 = 0
            """, "of 0 0 = BAD; back = NO; does = -10; clear = 0; buffer 3 0 = BAD");
    }

    private void begins() {
        doc.names("## Promise 2: begins");
        doc.says("`int begins(int n)`: N BUFFERS,", "begins 5 = 3; works 0 = 5; puts 4 1 = 1; puts 5 1 = BAD; begins 2 = 5; puts 1 1 = 1; puts 2 1 = BAD");
        doc.says("all anew: no ITEMS, ROOM 2, no STATIONS,", """
            puts 0 1 = 1; puts 2 2 = 1; rooms 2 6 = 2; rooms 0 1 = 2; station 0 NONE 1 1 0 = 0; begins 3 = 3
            items 0 =; items 2 =; buffer 0 1 = 2; buffer 2 1 = 2; works 1 = 0; of 0 0 = BAD; ticks 1 = 0; works 3 = 0; works 7 = 0
            """);
        doc.says("none WAITS, keeps, is in a QUEUE, GOT NONE,", """
            puts 0 7 = 1; asks 5 0 1 0 = 1; asks 2 1 1 0 = 0; keeps 3 2 = 1; keeps 3 2 = 2; keeps 4 2 = BLOCK; begins 3 = 3
            waiting =; worker 2 0 = 0; worker 2 1 = NONE; worker 2 2 = NONE; keeper 2 0 = NONE; keeper 2 1 = 0; queued 2 =; worker 5 4 = NONE
            cancels 2 = NO; lets 3 2 = NO; quits 4 = NO
            """);
        doc.says("all counts 0 (ticks, too):", """
            station 0 NONE 1 1 0 = 0; ticks 4 = 0; puts 0 1 = 1; takes 0 = 1; moves 0 1 1 0 = -100; doing '(t9)' = 0; begins 3 = 3
            works 2 = 0; works 3 = 0; master = 0 0 0; works 8 = 0; buffer 0 2 = 0; buffer 0 3 = 0; buffer 0 4 = 0; gate 0 = 0 0 0; gate 1 = 0 0 0
            station 0 NONE 1 1 0 = 0; of 0 3 = 0; of 0 4 = 0; of 0 5 = 0
            """);
        doc.says("what N was.", "begins 6 = 3; begins 1 = 6; begins 1 = 1");
        doc.says("S. BAD.", "begins 6 = 3; told 4 = 1; begins 0 = BAD; begins 7 = BAD; begins LOW = BAD; begins HIGH = BAD; works 0 = 6; told 4 = 1; back = 0; works 0 = 3");
    }

    private void rooms() {
        doc.names("## Promise 3: rooms");
        doc.says("`int rooms(int b, int v)`: ROOM of b becomes v", "rooms 1 5 = 2; buffer 1 1 = 5; buffer 0 1 = 2; buffer 2 1 = 2; rooms 1 1 = 5; puts 1 1 = 1; puts 1 2 = BLOCK");
        doc.says("(ITEMS stay, though they be more);", "puts 1 4 = 1; puts 1 5 = 2; rooms 1 1 = 2; items 1 = 4 5; buffer 1 1 = 1; buffer 1 0 = 2");
        doc.says("then SERVING:", "puts 1 4 = 1; puts 1 5 = 2; asks 0 1 0 6 = 0; asks 3 1 0 7 = 0; rooms 1 4 = 2; items 1 = 4 5 6 7; waiting =", "asks 0 0 1 0 = 0; rooms 1 1 = 2; gate 0 = 3 3 1");
        doc.says("what it was.", "rooms 0 5 = 2; rooms 0 5 = 5; rooms 0 1 = 5");
        doc.says("S. BAD.", "rooms 0 6 = 2; told 4 = 1; rooms 0 0 = BAD; rooms 0 7 = BAD; rooms 3 1 = BAD; rooms -1 1 = BAD; told 4 = 1; buffer 0 1 = 6; back = 0; buffer 0 1 = 2");
    }

    private void station() {
        doc.names("## Promise 4: station");
        doc.says("`int station(int in0, int in1, int out, int time, int add)`: A STATION: its number.", """
            station 0 1 2 3 4 = 0; station 2 NONE 0 1 1 = 1; works 1 = 2; puts 0 5 = 1; puts 1 8 = 1; ticks 1 = 0; of 0 0 = 1; of 0 1 = 3; of 0 2 = 7
            ticks 3 = 1; buffer 2 2 = 1; items 2 =; of 1 0 = 1; of 1 2 = 8; ticks 1 = 1; items 0 = 8
            """);
        doc.says("S. BAD (in1 NONE: none);", """
            station 0 NONE 1 1 0 = 0; told 4 = 1; station NONE 0 1 1 0 = BAD; station 0 0 NONE 1 0 = BAD; station 0 3 1 1 0 = BAD
            station 0 -2 1 1 0 = BAD; station 0 NONE 1 0 0 = BAD; station 0 NONE 1 1 10 = BAD; told 4 = 1; works 1 = 1; back = 0; works 1 = 0
            """);
        doc.says("FULL: 6.", """
            station 0 NONE 1 1 0 = 0; station 0 NONE 1 1 0 = 1; station 0 NONE 1 1 0 = 2; station 0 NONE 1 1 0 = 3; station 0 NONE 1 1 0 = 4
            station 0 NONE 1 1 0 = 5; station 0 NONE 1 1 0 = FULL; works 1 = 6; told 2 = 1
            """);
    }

    private void guards() {
        doc.names("## Promise 5: guards");
        doc.says("`int guards(int s, int b)`: GUARD of STATION s becomes that of BUFFER b (NONE: none):", """
            station 0 NONE 1 1 0 = 0; station 0 NONE 1 1 0 = 1; guards 1 2 = NONE; of 1 6 = 2; of 0 6 = NONE; ticks 1 = 0; gate 2 = 1 0 1; works 3 = 1
            guards 1 NONE = 2; of 1 6 = NONE; ticks 1 = 0; gate 2 = 1 0 1; works 3 = 3
            """);
        doc.says("what it was.", "station 0 NONE 1 1 0 = 0; guards 0 2 = NONE; guards 0 0 = 2; guards 0 0 = 0; guards 0 NONE = 0; guards 0 1 = NONE");
        doc.says("S. BAD.", """
            station 0 NONE 1 1 0 = 0; guards 0 2 = NONE; told 4 = 2; guards 1 0 = BAD; guards -1 0 = BAD; guards 0 3 = BAD; guards 0 -2 = BAD
            told 4 = 2; back = 1; of 0 6 = NONE
            """);
    }

    private void ticks() {
        doc.names("## Promise 6: ticks");
        doc.says("`int ticks(int n)`: n (1 .. 30) TICKS,", """
            station 0 NONE 1 1 0 = 0; ticks 1 = 0; works 2 = 1; of 0 5 = 1; ticks 30 = 0; works 2 = 31; of 0 5 = 31; ticks 31 = BAD; ticks 0 = BAD
            """);
        doc.says("SERVING behind each:", """
            station 0 NONE 1 1 0 = 0; rooms 1 1 = 2; puts 0 5 = 1; puts 0 6 = 2; asks 2 1 1 0 = 0; ticks 3 = 2; worker 2 4 = 5; items 1 = 6
            """, "asks 2 1 1 0 = 0; ticks 3 = 0; gate 1 = 5 5 1");
        doc.says("how many ITEMS were MADE.", """
            station 0 NONE 1 1 0 = 0; station 2 NONE 1 1 0 = 1; rooms 1 6 = 2; puts 0 5 = 1; puts 0 6 = 2; puts 2 7 = 1; ticks 1 = 0; ticks 1 = 2; ticks 9 = 1
            """);
        doc.says("S. BAD.", "ticks 3 = 0; told 4 = 1; ticks 0 = BAD; ticks 31 = BAD; ticks LOW = BAD; ticks HIGH = BAD; told 4 = 1; works 2 = 3; back = 0; works 2 = 0");
    }

    private void puts() {
        doc.names("## Promise 7: puts");
        doc.says("`int puts(int b, int k)`: PUT KIND k to b,", "puts 2 7 = 1; puts 2 8 = 2; items 2 = 7 8; buffer 2 2 = 2; buffer 2 4 = 2; gate 2 = 2 0 1; items 0 =");
        doc.says("then SERVING (behind a BLOCK, too):", """
            asks 3 0 1 0 = 0; gate 0 = 2 2 1; puts 1 7 = 1; gate 0 = 3 3 1; puts 1 7 = 2; puts 1 7 = BLOCK; gate 0 = 5 5 1; puts 0 6 = 1; worker 3 4 = 6
            """);
        doc.says("how many ITEMS b had ahead of SERVING; BLOCK.", """
            puts 0 1 = 1; puts 0 1 = 2; puts 0 1 = BLOCK; asks 3 1 1 0 = 0; puts 1 6 = 1; items 1 =; keeps 0 2 = 1; puts 2 1 = BLOCK
            """);
        doc.says("S. BAD.", "puts 0 1 = 1; told 4 = 1; puts 0 10 = BAD; puts 0 -1 = BAD; puts 3 0 = BAD; puts -1 0 = BAD; told 4 = 1; gate 0 = 1 0 1; back = 0; items 0 =");
    }

    private void takes() {
        doc.names("## Promise 8: takes");
        doc.says("`int takes(int b)`: TAKE from b,", "puts 2 7 = 1; puts 2 8 = 2; takes 2 = 7; items 2 = 8; buffer 2 3 = 1; gate 2 = 3 0 1");
        doc.says("then SERVING (behind a BLOCK, too):", """
            rooms 0 1 = 2; puts 0 7 = 1; asks 3 0 0 4 = 0; gate 0 = 3 2 1; takes 1 = BLOCK; gate 0 = 4 3 1; takes 0 = 7; items 0 = 4; waiting =
            """);
        doc.says("its KIND; BLOCK.", "puts 0 0 = 1; puts 0 9 = 2; takes 0 = 0; takes 0 = 9; takes 0 = BLOCK; puts 0 4 = 1; keeps 1 0 = 1; takes 0 = BLOCK");
        doc.says("S. BAD.", "takes 0 = BLOCK; told 4 = 1; takes 3 = BAD; takes -1 = BAD; takes LOW = BAD; takes HIGH = BAD; told 4 = 1; back = 0; gate 0 = 0 0 0");
    }

    private void moves() {
        doc.names("## Promise 9: moves");
        doc.says("`int moves(int a, int b, int n, int undo)`: MOVE n (1 .. 9) from a to b,", """
            puts 2 7 = 1; puts 2 8 = 2; moves 2 0 1 0 = 1; items 2 = 8; items 0 = 7; moves 2 0 9 0 = -101; moves 0 2 0 0 = BAD; moves 0 2 10 0 = BAD
            """);
        doc.says("kept (undo 0), UNDONE (1) if it ends early;", """
            puts 0 7 = 1; puts 0 8 = 2; moves 0 1 3 1 = -100; items 0 = 7 8; items 1 =; moves 0 1 3 0 = -102; items 0 =; items 1 = 7 8
            moves 1 2 2 1 = 2; items 2 = 7 8
            """);
        doc.says("then SERVING (then, too):", """
            asks 3 1 1 0 = 0; asks 4 2 1 0 = 0; puts 0 7 = 1; gate 2 = 3 3 1; moves 0 1 3 1 = -100; worker 3 0 = 1; gate 2 = 4 4 1
            moves 0 1 1 0 = 1; worker 3 4 = 7; items 1 =; gate 2 = 5 5 1
            """);
        doc.says("n; -100 less how many were moved and stay so.", """
            rooms 1 6 = 2; puts 0 7 = 1; puts 0 8 = 2; moves 0 1 2 0 = 2; moves 0 1 1 0 = -100; moves 1 0 3 1 = -100; moves 1 0 3 0 = -102; moves 0 1 9 0 = -102
            """);
        doc.says("S. BAD: a is b, too.", """
            puts 0 7 = 1; moves 0 1 1 0 = 1; told 4 = 2; moves 1 1 1 0 = BAD; moves 3 0 1 0 = BAD; moves 1 3 1 0 = BAD; moves -1 0 1 0 = BAD
            moves 1 0 1 2 = BAD; moves 1 0 1 -1 = BAD; told 4 = 2; moves 0 1 1 1 = -100; told 4 = 3; back = 2; back = 1; items 0 = 7; items 1 =
            """);
    }

    private void asks() {
        doc.names("## Promise 10: asks");
        doc.says("`int asks(int w, int b, int wish, int k)`: WORKER w WISHES (0 to PUT KIND k, 1 to TAKE;", """
            asks 4 1 0 7 = 1; items 1 = 7; worker 4 4 = NONE; asks 2 1 1 0 = 1; items 1 =; worker 2 4 = 7; worker 4 4 = NONE; buffer 1 2 = 1; buffer 1 3 = 1
            """);
        doc.says("k 0 .. 9 then, too, it counts for nothing)", """
            puts 1 7 = 1; asks 0 1 1 10 = BAD; asks 0 1 1 -1 = BAD; asks 0 1 1 9 = 1; worker 0 4 = 7; asks 0 1 1 9 = 0; worker 0 3 = NONE
            """);
        doc.says("at b (he may keep others, be in a QUEUE):", """
            keeps 2 0 = 1; keeps 4 1 = 1; keeps 2 1 = BLOCK; asks 2 2 0 6 = 1; items 2 = 6; asks 2 1 0 5 = 0; worker 2 1 = 1; queued 1 = 2; keeper 0 0 = 2
            """);
        doc.says("it is tried;", "asks 2 0 0 6 = 1; gate 0 = 1 0 1; keeps 1 0 = 1; asks 2 0 1 0 = 0; gate 0 = 4 2 1");
        doc.says("if it WOULD BLOCK, it WAITS, the last of THE LINE;", "asks 5 0 1 0 = 0; asks 0 1 1 0 = 0; asks 3 0 1 0 = 0; waiting = 5 0 3; worker 3 0 = 1; asks 1 2 0 4 = 1; waiting = 5 0 3");
        doc.says("then SERVING:", "asks 5 0 1 0 = 0; gate 0 = 2 2 1; asks 0 1 0 6 = 1; gate 0 = 3 3 1; asks 1 0 0 8 = 1; worker 5 4 = 8; waiting =; items 0 =");
        doc.says("1 done at once, 0.", "asks 5 0 0 4 = 1; asks 5 0 1 0 = 1; asks 5 0 1 0 = 0");
        doc.says("S. BAD; NO: it WAITS.", """
            asks 5 0 1 0 = 0; told 4 = 1; asks 5 1 0 4 = NO; asks 5 3 0 4 = BAD; asks 6 0 0 4 = BAD; asks -1 0 0 4 = BAD; asks 4 3 0 4 = BAD
            asks 4 0 2 4 = BAD; asks 4 0 -1 4 = BAD; asks 4 0 0 10 = BAD; told 4 = 1; items 1 =; back = 0; waiting =; asks 5 1 0 4 = 1
            """);
    }

    private void cancels() {
        doc.names("## Promise 11: cancels");
        doc.says("`int cancels(int w)`: WORKER w WAITS no more:", """
            asks 5 0 1 0 = 0; asks 1 0 1 0 = 0; asks 2 0 1 0 = 0; gate 0 = 9 9 1; cancels 1 = 2; waiting = 5 2; worker 1 0 = 0; worker 1 1 = NONE
            worker 1 2 = NONE; gate 0 = 9 9 1; puts 0 7 = 1; puts 0 8 = 1; puts 0 9 = 1; items 0 = 9; worker 1 4 = NONE
            """);
        doc.says("how many do.", "asks 5 0 1 0 = 0; asks 1 0 1 0 = 0; cancels 5 = 1; cancels 1 = 0");
        doc.says("S. BAD; NO: it does not.", """
            asks 5 0 1 0 = 0; cancels 4 = NO; cancels 6 = BAD; cancels -1 = BAD; told 4 = 1; cancels 5 = 0; told 4 = 2; cancels 5 = NO; back = 1; waiting = 5
            """);
    }

    private void keeps() {
        doc.names("## Promise 12: keeps");
        doc.says("`int keeps(int w, int b)`: The GATE of b is entered and left:", """
            asks 0 2 1 0 = 0; keeps 1 0 = 1; gate 0 = 1 0 1; keeps 1 0 = 2; keeps 2 0 = BLOCK; gate 0 = 3 0 1; gate 1 = 0 0 0; gate 2 = 2 2 1
            """);
        doc.says("WORKER w becomes KEEPER, if there is none, or has KEPT it once more: how often now;", """
            keeps 1 0 = 1; keeper 0 0 = 1; keeper 0 1 = 1; keeps 1 0 = 2; keeps 1 0 = 3; keeper 0 1 = 3; keeps 1 2 = 1; keeper 2 0 = 1; keeper 1 0 = NONE
            """);
        doc.says("BLOCK: another one keeps it, w is the last of its QUEUE.", """
            keeps 1 0 = 1; keeps 5 0 = BLOCK; keeps 2 0 = BLOCK; queued 0 = 5 2; keeper 0 0 = 1; keeper 0 1 = 1; keeps 3 1 = 1
            """);
        doc.says("S. BAD; NO: w is in a QUEUE.", """
            keeps 1 0 = 1; keeps 5 0 = BLOCK; told 4 = 2; keeps 5 1 = NO; keeps 5 0 = NO; keeps 6 1 = BAD; keeps -1 1 = BAD; keeps 5 3 = BAD; keeps 4 -1 = BAD
            told 4 = 2; keeper 1 0 = NONE; back = 1; queued 0 =; back = 0; keeper 0 0 = NONE
            """);
    }

    private void lets() {
        doc.names("## Promise 13: lets");
        doc.says("`int lets(int w, int b)`: The GATE of b is entered and left:", "keeps 1 0 = 1; keeps 1 0 = 2; lets 1 0 = 1; gate 0 = 3 0 1; lets 1 0 = 0; gate 0 = 4 0 1; gate 1 = 0 0 0");
        doc.says("w has KEPT it once less;", "keeps 1 0 = 1; keeps 1 0 = 2; keeps 1 0 = 3; lets 1 0 = 2; keeper 0 0 = 1; keeper 0 1 = 2; puts 0 1 = BLOCK; lets 1 0 = 1; keeper 0 1 = 1");
        doc.says("0: the first of the QUEUE becomes KEEPER, KEPT 1, else none is;", """
            keeps 1 0 = 1; keeps 1 0 = 2; keeps 5 0 = BLOCK; keeps 2 0 = BLOCK; lets 1 0 = 1; keeper 0 0 = 1; lets 1 0 = 0; keeper 0 0 = 5; keeper 0 1 = 1
            queued 0 = 2; lets 5 0 = 0; keeper 0 0 = 2; queued 0 =; lets 2 0 = 0; keeper 0 0 = NONE; keeper 0 1 = 0; puts 0 1 = 1
            """);
        doc.says("then SERVING:", """
            puts 0 7 = 1; keeps 1 0 = 1; keeps 5 0 = BLOCK; asks 3 0 0 4 = 0; asks 5 0 1 0 = 0; lets 1 0 = 0; worker 5 4 = 7; waiting = 3
            lets 5 0 = 0; waiting =; items 0 = 4
            """, "keeps 1 0 = 1; keeps 1 0 = 2; asks 3 1 1 0 = 0; gate 1 = 2 2 1; lets 1 0 = 1; gate 1 = 3 3 1");
        doc.says("how often w has KEPT it yet.", "keeps 1 0 = 1; keeps 1 0 = 2; keeps 5 0 = BLOCK; lets 1 0 = 1; lets 1 0 = 0; lets 5 0 = 0");
        doc.says("S. BAD; NO: w is not its KEEPER.", """
            keeps 1 0 = 1; keeps 5 0 = BLOCK; lets 5 0 = NO; lets 1 1 = NO; lets 2 0 = NO; lets 6 0 = BAD; lets -1 1 = BAD; lets 1 3 = BAD; told 4 = 2
            lets 1 0 = 0; told 4 = 3; lets 1 0 = NO; back = 2; keeper 0 0 = 1; queued 0 = 5
            """);
    }

    private void quits() {
        doc.names("## Promise 14: quits");
        doc.says("`int quits(int w)`: WORKER w is in no QUEUE any more:", """
            keeps 1 2 = 1; keeps 5 2 = BLOCK; keeps 4 2 = BLOCK; keeps 3 2 = BLOCK; quits 4 = 2; queued 2 = 5 3; gate 2 = 4 0 1; keeps 4 0 = 1
            lets 1 2 = 0; lets 5 2 = 0; keeper 2 0 = 3; queued 2 =
            """);
        doc.says("the BUFFER.", "keeps 1 2 = 1; keeps 5 2 = BLOCK; quits 5 = 2; keeps 1 0 = 1; keeps 5 0 = BLOCK; quits 5 = 0");
        doc.says("S. BAD; NO: in none.", """
            keeps 1 2 = 1; quits 1 = NO; quits 5 = NO; keeps 5 2 = BLOCK; quits 6 = BAD; quits -1 = BAD; told 4 = 2; quits 5 = 2; told 4 = 3; quits 5 = NO
            back = 2; queued 2 = 5
            """);
    }

    private void keeperAndQueue() {
        doc.names("## Promise 15: keeper");
        doc.says("`int keeper(int b, int what)`: Of BUFFER b: KEEPER (what 0; NONE), how often KEPT (1), how many in its QUEUE (2).", """
            keeps 4 1 = 1; keeps 4 1 = 2; keeps 4 1 = 3; keeps 0 1 = BLOCK; keeps 2 1 = BLOCK; keeper 1 0 = 4; keeper 1 1 = 3; keeper 1 2 = 2
            keeper 0 0 = NONE; keeper 0 1 = 0; keeper 0 2 = 0
            """);
        doc.says("BAD.", "keeper 0 3 = BAD; keeper 0 -1 = BAD; keeper 3 0 = BAD; keeper -1 0 = BAD; told 0 = 4");
        doc.names("## Promise 16: queue");
        doc.says("`int queue(int b, int i)`: The i-th of the QUEUE of b; NONE.", """
            keeps 4 1 = 1; keeps 0 1 = BLOCK; keeps 2 1 = BLOCK; queue 1 0 = 0; queue 1 1 = 2; queue 1 2 = NONE; queue 1 HIGH = NONE; queue 0 0 = NONE
            """);
        doc.says("BAD: i below 0.", "queue 1 -1 = BAD; queue 1 LOW = BAD; queue 3 0 = BAD; queue -1 0 = BAD; told 0 = 4");
    }

    private void stuck() {
        doc.names("## Promise 17: stuck");
        doc.says("`int stuck()`: WORKERS that are STUCK (bits).", """
            stuck = 0; keeps 0 0 = 1; keeps 3 1 = 1; keeps 5 2 = 1; keeps 0 1 = BLOCK; keeps 3 0 = BLOCK; stuck = 0b1001; keeps 4 2 = BLOCK; stuck = 0b1001
            keeps 5 1 = BLOCK; stuck = 0b1001; quits 0 = 1; stuck = 0
            """);
    }

    private void buffer() {
        doc.names("## Promise 18: buffer");
        doc.says("""
            `int buffer(int b, int what)`: Of BUFFER b: ITEMS (what 0), ROOM (1), INS (2), OUTS (3), PEAK (4), ENTRIES (5), THROWN (6), DEEPEST (7).
            """, """
            rooms 1 5 = 2; puts 1 1 = 1; puts 1 2 = 2; puts 1 3 = 3; puts 1 4 = 4; takes 1 = 1; takes 1 = 2; keeps 0 2 = 1; moves 1 2 1 0 = -100
            buffer 1 0 = 2; buffer 1 1 = 5; buffer 1 2 = 4; buffer 1 3 = 3; buffer 1 4 = 4; buffer 1 5 = 8; buffer 1 6 = 1; buffer 1 7 = 2
            """);
        doc.says("BAD.", "buffer 0 8 = BAD; buffer 0 -1 = BAD; buffer 3 0 = BAD; buffer -1 0 = BAD; told 0 = 4");
    }

    private void item() {
        doc.names("## Promise 19: item");
        doc.says("`int item(int b, int i)`: KIND of the i-th ITEM of b (0 the first); NONE.", """
            puts 1 9 = 1; puts 1 0 = 2; item 1 0 = 9; item 1 1 = 0; item 1 2 = NONE; item 1 HIGH = NONE; item 0 0 = NONE; takes 1 = 9; item 1 0 = 0; item 1 1 = NONE
            """);
        doc.says("BAD: i below 0.", "item 1 -1 = BAD; item 1 LOW = BAD; item 3 0 = BAD; item -1 0 = BAD; told 0 = 4");
    }

    private void of() {
        doc.names("## Promise 20: of");
        doc.says("`int of(int s, int what)`: Of STATION s: what it is (what 0), LEFT (1; 0, if it is not BUSY), KIND (2; NONE: IDLE),", """
            station 0 NONE 1 2 0 = 0; station 2 NONE 1 9 0 = 1; of 0 0 = 0; of 0 1 = 0; of 0 2 = NONE; puts 0 0 = 1; ticks 1 = 0
            of 0 0 = 1; of 0 1 = 2; of 0 2 = 0; of 1 0 = 0; of 1 1 = 0; of 1 2 = NONE; keeps 0 1 = 1; ticks 2 = 0; of 0 0 = 2; of 0 1 = 0; of 0 2 = 0
            """);
        doc.says("MADE (3), HELD (4), STARVED (5), GUARD (6; NONE).", """
            station 0 NONE 1 1 0 = 0; of 0 6 = NONE; guards 0 2 = NONE; puts 0 4 = 1; keeps 0 1 = 1; ticks 3 = 0; lets 0 1 = 0; ticks 4 = 1
            of 0 3 = 1; of 0 4 = 2; of 0 5 = 4; of 0 6 = 2
            """);
        doc.says("BAD.", "of 0 0 = BAD; station 0 NONE 1 1 0 = 0; of 0 0 = 0; of 1 0 = BAD; of -1 0 = BAD; of 0 7 = BAD; of 0 -1 = BAD; told 0 = 5");
    }

    private void worker() {
        doc.names("## Promise 21: worker");
        doc.says("`int worker(int w, int what)`: Of WORKER w: whether it WAITS (what 0), at which BUFFER (1; NONE), WISH (2; NONE),", """
            asks 5 2 1 0 = 0; worker 5 0 = 1; worker 5 1 = 2; worker 5 2 = 1; worker 4 0 = 0; worker 4 1 = NONE; worker 4 2 = NONE
            keeps 1 0 = 1; asks 4 0 0 3 = 0; worker 4 0 = 1; worker 4 1 = 0; worker 4 2 = 0; lets 1 0 = 0; worker 4 0 = 0; worker 4 1 = NONE; worker 4 2 = NONE
            """);
        doc.says("KIND of it (3; NONE: no WISH to PUT), GOT (4).", """
            worker 4 3 = NONE; worker 4 4 = NONE; keeps 1 0 = 1; asks 4 0 0 0 = 0; worker 4 3 = 0; asks 5 0 1 8 = 0; worker 5 3 = NONE
            lets 1 0 = 0; worker 4 3 = NONE; worker 4 4 = NONE; worker 5 4 = 0
            """);
        doc.says("BAD.", "worker 6 0 = BAD; worker -1 0 = BAD; worker 0 5 = BAD; worker 0 -1 = BAD; told 0 = 4");
    }

    private void line() {
        doc.names("## Promise 22: line");
        doc.says("`int line(int i)`: The i-th WORKER of THE LINE (0 on); NONE.", "asks 5 0 1 0 = 0; asks 0 0 1 0 = 0; line 0 = 5; line 1 = 0; line 2 = NONE; line HIGH = NONE");
        doc.says("BAD: below 0.", "line -1 = BAD; line LOW = BAD; told 0 = 2");
    }

    private void works() {
        doc.names("## Promise 23: works");
        doc.says("`int works(int what)`: N (what 0), STATIONS (1), TICKS so far (2), UNGUARDED (3),", """
            begins 5 = 3; station 0 NONE 1 1 0 = 0; station 0 NONE 1 1 0 = 1; guards 0 3 = NONE; ticks 4 = 0; ticks 3 = 0
            works 0 = 5; works 1 = 2; works 2 = 7; works 3 = 7
            """);
        doc.says("ENTRIES of the MASTER GATE (4), its THROWN (5), its DEEPEST (6),", "doing 'p01((t9))' = 1; doing '()' = 0; works 4 = 5; works 5 = 1; works 6 = 3");
        doc.says("ITEMS of all BUFFERS (7), ENTRIES of all GATES (8), how many WAIT (9).", """
            puts 0 1 = 1; puts 0 2 = 2; puts 2 3 = 1; takes 1 = BLOCK; doing '(t2)' = 1; works 7 = 2; works 8 = 7; works 9 = 0
            asks 3 1 1 0 = 0; asks 4 1 1 0 = 0; works 9 = 2; works 8 = 12
            """);
        doc.says("BAD.", "works 10 = BAD; works -1 = BAD; works LOW = BAD; works HIGH = BAD; told 0 = 4");
    }

    private void type() {
        doc.names("## Promise 24: type");
        doc.says("`int type(int c)`: A byte (0 .. 127) comes behind THE TEXT: how many it has.", "type 112 = 1; type 49 = 2; type 53 = 3; does = 1; items 1 = 5; type 0 = 4; type 127 = 5; does = -13");
        doc.says("BAD; FULL: 120.", "type 128 = BAD; type -1 = BAD; types '" + " ".repeat(119) + "'; type 32 = 120; type 32 = FULL; type 128 = BAD; told 3 = 120; told 4 = 0");
    }

    private void clear() {
        doc.names("## Promise 25: clear");
        doc.says("`int clear()`: THE TEXT is empty: how many it had.", "clear = 0; types 'p01'; clear = 3; told 3 = 0; does = -10; type 116 = 1; type 48 = 2; does = -1000; clear = 2; clear = 0; told 4 = 1");
    }

    private void does() {
        doc.names("## Promise 26: does");
        doc.says("`int does()`: ORDERS of THE TEXT (which stays) are done,", "doing 'p01p12' = 2; items 0 = 1; items 1 = 2; told 3 = 6; does = 2; items 0 = 1 1; items 1 = 2 2");
        doc.says("then SERVING (whether it ended early or not):", """
            asks 3 0 1 0 = 0; gate 0 = 2 2 1; doing 't9' = -1000; gate 0 = 3 3 1; doing 'p14' = 1; gate 0 = 4 4 1; doing 'p05t0p06' = 3; worker 3 4 = 6; items 0 =
            """);
        doc.says("how many p, t, m were done and not undone (by a GROUP around);", """
            doing 'p01t0p02m010' = 4; doing '(p13)' = 1; doing '(p14(p25)t9)' = 0; doing '(t1(p25t9)p16)' = 2; doing '()' = 0; items 0 = 2; items 1 = 6; items 2 =
            """);
        doc.says("-1000 less how many p, t, m were come to (undone ones, too) ahead of that which ended all.", """
            doing 't9' = -1000; doing 'p01p02t0m010t9p11' = -1004; doing '(p01t9p02p03)t9' = -1002; doing '(p01)(t9)()t9' = -1002
            """);
        doc.says("S. -10 less the FAULT (no S).", """
            doing 'p01' = 1; told 4 = 1; doing 't9' = -1000; told 4 = 2; doing 'p0x' = -12; doing 'x' = -10; told 4 = 2; told 0 = 0; back = 1; back = 0; items 0 =
            """);
    }

    private void back() {
        doc.names("## Promise 27: back");
        doc.says("`int back()`: A STATE back: how many can be yet.", """
            puts 0 1 = 1; puts 0 2 = 2; takes 0 = 1; back = 2; items 0 = 1 2; told 4 = 2; back = 1; items 0 = 1; puts 1 5 = 1; back = 1; items 1 =; back = 0; items 0 =
            """);
        doc.says("NO: none.", "back = NO; puts 0 1 = 1; back = 0; back = NO; told 1 = 2");
    }

    private void told() {
        doc.names("## Promise 28: told");
        doc.says("`int told(int what)`: How often refused: BAD (0), NO (1), FULL (2); bytes of THE TEXT (3), STATES (4).", """
            takes 9 = BAD; takes 9 = BAD; takes 9 = BAD; quits 0 = NO; quits 0 = NO; types 'p0 1 '; station 0 NONE 1 1 0 = 0; station 0 NONE 1 1 0 = 1
            station 0 NONE 1 1 0 = 2; station 0 NONE 1 1 0 = 3; station 0 NONE 1 1 0 = 4; station 0 NONE 1 1 0 = 5; station 0 NONE 1 1 0 = FULL; back = 5; back = 4
            told 0 = 3; told 1 = 2; told 2 = 1; told 3 = 5; told 4 = 4
            """);
        doc.says("BAD.", "told 5 = BAD; told -1 = BAD; told LOW = BAD; told HIGH = BAD; told 0 = 4");
    }

    private void digest() {
        doc.names("## Promise 29: digest");
        doc.says("""
            `long digest()`: h = 1932; then h = 31 h + v for each v: told(0) to told(4); works(0) to works(9); of BUFFERS buffer(0) to
            buffer(7), KINDS, keeper(0) to keeper(2), QUEUE; of STATIONS of(0) to of(6); of WORKERS worker(0) to worker(4); THE LINE; stuck().
            """, """
            begins 1 = 3; puts 0 7 = 1; puts 0 8 = 2; station 0 NONE 0 2 5 = 0; guards 0 0 = NONE; keeps 4 0 = 1; keeps 1 0 = BLOCK; asks 5 0 0 3 = 0
            ticks 1 = 0; takes 7 = BAD; quits 0 = NO; types 'p0'
            digest = 1 1 0 2 6  1 1 1 0 0 0 0 2 9 1  2 2 2 0 2 9 4 2  7 8  4 1 1  1  0 0 -1 0 0 1 0 \
                0 -1 -1 -1 -1  0 -1 -1 -1 -1  0 -1 -1 -1 -1  0 -1 -1 -1 -1  0 -1 -1 -1 -1  1 0 0 3 -1  5  0
            """, """
            begins 2 = 3; keeps 0 0 = 1; keeps 2 1 = 1; keeps 2 0 = BLOCK; keeps 0 1 = BLOCK
            digest = 0 0 0 0 5  2 0 0 0 0 0 0 0 4 0  0 2 0 0 0 2 0 1  0 1 1  2  0 2 0 0 0 2 0 1  2 1 1  0 \
                0 -1 -1 -1 -1  0 -1 -1 -1 -1  0 -1 -1 -1 -1  0 -1 -1 -1 -1  0 -1 -1 -1 -1  0 -1 -1 -1 -1  5
            """);
    }

    private void notPromised() {
        doc.names("""
            ## Not promised How the state is held inside the object is free, as are the speed of each call, the text of toString and the
            behaviour of equals and hashCode. Use of one object from several threads at once is not promised to be safe. Nothing is promised
            beyond the answers and state changes described above, and nothing about an object after its 512th call.
            """);
    }
}
