/** Promises 7 to 11, calls that would block, and the Terms they use, at their boundaries. */
public final class CallsEdgesTest {
    private static final Due DUE = new Due();
    private static final Script SAYS = new Script(DUE);

    public static void main(String[] args) {
        putsWhat();
        putsBlock();
        putsServe();
        putsPeak();
        putsPeakThoughOutsAreMore();
        takesWhat();
        takesBlock();
        takesServe();
        movesWhat();
        movesAsManyAsThere();
        movesAsManyAsRoom();
        movesMost();
        movesMoreThanRoom();
        movesKept();
        movesServe();
        asksWhat();
        asksWaits();
        asksDone();
        asksGot();
        asksKept();
        servesSix();
        servesInOrder();
        cancelsWhat();
        cancelsPlaces();
        DUE.end();
    }

    private static void putsWhat() {
        SAYS.edge("7: KINDS 0 .. 9", """
            puts 0 0 = 1; puts 0 9 = 2; items 0 = 0 9
            puts 1 -1 = BAD; puts 1 10 = BAD; puts 1 LOW = BAD; puts 1 HIGH = BAD; gate 1 = 0 0 0; told 4 = 2
            """);
        SAYS.edge("7: BUFFERS 0 .. N less 1", """
            puts 0 1 = 1; puts 2 1 = 1; puts 3 1 = BAD; puts -1 1 = BAD; puts LOW 1 = BAD; puts HIGH 1 = BAD
            works 8 = 2; told 4 = 2; begins 6 = 3; puts 5 1 = 1; puts 6 1 = BAD
            """);
        SAYS.edge("7: the KIND is the last of its row, INS are one more, S", """
            rooms 1 3 = 2; puts 1 8 = 1; puts 1 3 = 2; puts 1 5 = 3; items 1 = 8 3 5; buffer 1 2 = 3; gate 1 = 3 0 1
            told 4 = 4; back = 3; items 1 = 8 3; buffer 1 2 = 2; gate 1 = 2 0 1
            """);
    }

    private static void putsBlock() {
        SAYS.edge("7: as many ITEMS as ROOM: BLOCK, which is no refusal", """
            puts 0 1 = 1; puts 0 2 = 2; puts 0 3 = BLOCK; items 0 = 1 2; buffer 0 2 = 2; buffer 0 4 = 2; gate 0 = 3 1 1
            told 0 = 0; told 1 = 0; told 2 = 0; told 4 = 3; back = 2; gate 0 = 2 0 1
            """);
        SAYS.edge("7: a call's PUT is nobody's: KEPT by WORKER 0 or 5, BLOCK, though empty", """
            keeps 0 0 = 1; puts 0 1 = BLOCK; items 0 =; gate 0 = 2 1 1; keeps 5 2 = 1; puts 2 1 = BLOCK; puts 1 1 = 1
            lets 0 0 = 0; puts 0 1 = 1; lets 5 2 = 0; puts 2 1 = 1; buffer 0 2 = 1
            """);
    }

    private static void putsServe() {
        SAYS.edge("7: how many ITEMS b had ahead of SERVING", """
            asks 3 0 1 0 = 0; puts 0 4 = 1; items 0 =; worker 3 4 = 4; waiting =; buffer 0 4 = 1
            """);
        SAYS.edge("7: then SERVING, behind a BLOCK, too, not behind a refusal", """
            puts 0 1 = 1; puts 0 2 = 2; asks 3 1 1 0 = 0; gate 1 = 2 2 1
            puts 0 3 = BLOCK; gate 1 = 3 3 1; puts 0 10 = BAD; gate 1 = 3 3 1; puts 2 3 = 1; gate 1 = 4 4 1
            """);
    }

    private static void putsPeak() {
        SAYS.edge("7: PEAK, the most ITEMS it ever had, is told anew by a PUT alone", """
            puts 0 1 = 1; buffer 0 4 = 1; puts 0 2 = 2; buffer 0 4 = 2; takes 0 = 1; takes 0 = 2; buffer 0 4 = 2
            puts 0 3 = 1; buffer 0 4 = 2; rooms 0 6 = 2; buffer 0 4 = 2; puts 0 4 = 2; buffer 0 4 = 2; puts 0 5 = 3; buffer 0 4 = 3
            """);
    }

    /** OUTS are counted, too, when an ITEM is the first again or all is undone: INS less OUTS are not what it has. */
    private static void putsPeakThoughOutsAreMore() {
        SAYS.edge("7: PEAK: the most ITEMS it ever had, behind a MOVE that ended early", """
            puts 0 1 = 1; keeps 0 1 = 1; moves 0 1 1 0 = -100; buffer 0 3 = 1; buffer 0 4 = 1; puts 0 2 = 2; buffer 0 4 = 2
            lets 0 1 = 0; moves 0 1 3 1 = -100; items 0 = 1 2; buffer 0 3 = 3; rooms 0 3 = 2; puts 0 3 = 3; buffer 0 4 = 3; buffer 1 4 = 2
            """);
        SAYS.edge("7: PEAK: the most ITEMS it ever had, behind a GROUP that was undone", """
            doing 'p01(t0t0)' = 1; puts 0 2 = 2; buffer 0 4 = 2; doing '(t0t0p13p14t9)' = 0; puts 1 5 = 1; buffer 1 4 = 2
            """);
    }

    private static void takesWhat() {
        SAYS.edge("8: its KIND: the first ITEM, be it KIND 0", """
            puts 2 0 = 1; puts 2 9 = 2; takes 2 = 0; items 2 = 9; takes 2 = 9; items 2 =; buffer 2 3 = 2; buffer 2 2 = 2
            takes 2 = BLOCK; gate 2 = 5 1 1; told 4 = 5; back = 4; back = 3; items 2 = 9; buffer 2 3 = 1
            """);
        SAYS.edge("8: BUFFERS 0 .. N less 1", """
            takes -1 = BAD; takes 3 = BAD; takes LOW = BAD; takes HIGH = BAD; works 8 = 0; told 4 = 0
            takes 0 = BLOCK; takes 2 = BLOCK; begins 1 = 3; takes 0 = BLOCK; takes 1 = BAD
            """);
        SAYS.edge("8: six, as they came", """
            rooms 0 6 = 2; puts 0 5 = 1; puts 0 4 = 2; puts 0 3 = 3; puts 0 2 = 4; puts 0 1 = 5; puts 0 0 = 6
            takes 0 = 5; takes 0 = 4; takes 0 = 3; takes 0 = 2; takes 0 = 1; takes 0 = 0; takes 0 = BLOCK
            """);
    }

    private static void takesBlock() {
        SAYS.edge("8: without ITEMS: BLOCK, which is no refusal", """
            takes 1 = BLOCK; buffer 1 3 = 0; gate 1 = 1 1 1; told 0 = 0; told 1 = 0; told 2 = 0; told 4 = 1
            back = 0; gate 1 = 0 0 0
            """);
        SAYS.edge("8: a call's TAKE is nobody's: KEPT by WORKER 0 or 5: BLOCK", """
            puts 0 7 = 1; puts 1 8 = 1; keeps 0 0 = 1; takes 0 = BLOCK; items 0 = 7; buffer 0 3 = 0; gate 0 = 3 1 1
            keeps 5 1 = 1; takes 1 = BLOCK; lets 0 0 = 0; takes 0 = 7; lets 5 1 = 0; takes 1 = 8
            """);
    }

    private static void takesServe() {
        SAYS.edge("8: then SERVING, behind a BLOCK, too, not behind a refusal", """
            rooms 0 1 = 2; puts 0 1 = 1; asks 2 0 0 6 = 0; gate 0 = 3 2 1; takes 1 = BLOCK; gate 0 = 4 3 1; takes 3 = BAD; gate 0 = 4 3 1
            takes 0 = 1; items 0 = 6; waiting =; gate 0 = 6 3 1
            """);
    }

    private static void movesWhat() {
        SAYS.edge("9: n (1 .. 9), undo 0 or 1", """
            rooms 1 6 = 2; puts 0 1 = 1; moves 0 1 1 0 = 1; puts 0 2 = 1; moves 0 1 9 0 = -101; puts 0 3 = 1; moves 0 1 1 1 = 1
            moves 1 0 0 0 = BAD; moves 1 0 10 0 = BAD; moves 1 0 -1 0 = BAD; moves 1 0 LOW 0 = BAD; moves 1 0 HIGH 0 = BAD
            moves 1 0 1 -1 = BAD; moves 1 0 1 2 = BAD; moves 1 0 1 LOW = BAD; moves 1 0 1 HIGH = BAD
            items 1 = 1 2 3; told 4 = 6
            """);
        SAYS.edge("9: BUFFERS that are there; BAD: a is b, too", """
            puts 0 1 = 1; moves 0 2 1 0 = 1; moves 2 0 1 0 = 1; told 4 = 3
            moves 0 0 1 0 = BAD; moves 2 2 1 1 = BAD; moves 3 0 1 0 = BAD; moves 0 3 1 0 = BAD; moves -1 0 1 0 = BAD
            moves 0 -1 1 0 = BAD; moves 3 3 1 0 = BAD; moves LOW 0 1 0 = BAD; moves 0 HIGH 1 0 = BAD
            items 0 = 1; told 4 = 3
            """);
        SAYS.edge("9: works of one BUFFER have none to move to", "begins 1 = 3; puts 0 1 = 1; moves 0 0 1 0 = BAD; moves 0 1 1 0 = BAD");
    }

    private static void movesAsManyAsThere() {
        SAYS.edge("9: as many as a has: n; one more: a TAKE WOULD BLOCK, those moved stay so", """
            puts 0 1 = 1; puts 0 2 = 2; moves 0 1 2 0 = 2; items 0 =; items 1 = 1 2; gate 0 = 5 0 2; gate 1 = 3 0 2
            buffer 0 3 = 2; buffer 1 2 = 2; buffer 1 4 = 2
            moves 1 0 3 0 = -102; items 0 = 1 2; items 1 =; gate 0 = 8 1 2; gate 1 = 7 2 2
            buffer 1 3 = 2; buffer 0 2 = 4; told 4 = 4; back = 3; items 1 = 1 2; gate 1 = 3 0 2
            """);
        SAYS.edge("9: as many as a has, UNDONE if it ends early: one more", """
            puts 0 1 = 1; puts 0 2 = 2; moves 0 1 2 1 = 2; items 1 = 1 2
            moves 1 0 3 1 = -100; items 1 = 1 2; items 0 =; buffer 1 3 = 2; buffer 0 2 = 4; buffer 0 4 = 2; gate 0 = 8 1 2; gate 1 = 7 2 2
            """);
        SAYS.edge("9: a is empty, b is full: the TAKE is tried ahead of the PUT", """
            puts 1 1 = 1; puts 1 2 = 2; moves 0 1 1 0 = -100; gate 0 = 2 2 2; gate 1 = 3 1 1; items 1 = 1 2; items 0 =
            """);
    }

    private static void movesAsManyAsRoom() {
        SAYS.edge("9: as many as b has room for: n; one more: that ITEM is the first of a again", """
            rooms 0 4 = 2; puts 0 1 = 1; puts 0 2 = 2; puts 0 3 = 3; puts 0 4 = 4; moves 0 1 2 1 = 2; items 0 = 3 4; items 1 = 1 2
            gate 0 = 7 0 2; gate 1 = 3 0 2
            moves 0 1 1 0 = -100; items 0 = 3 4; items 1 = 1 2; buffer 0 3 = 3; buffer 1 2 = 2; buffer 1 4 = 2; gate 0 = 9 1 2; gate 1 = 5 2 2
            takes 1 = 1; moves 0 1 2 0 = -101; items 0 = 4; items 1 = 2 3; buffer 0 3 = 5; buffer 1 2 = 3
            """);
        SAYS.edge("9: UNDONE: ITEMS of a and b are as they were ahead, counts stay as they were counted", """
            rooms 2 3 = 2; puts 2 1 = 1; puts 2 2 = 2; puts 2 3 = 3; puts 0 9 = 1; puts 1 8 = 1
            moves 2 0 2 1 = -100; items 2 = 1 2 3; items 0 = 9; items 1 = 8
            buffer 2 3 = 2; buffer 0 2 = 2; buffer 0 4 = 2; gate 2 = 6 1 2; gate 0 = 4 2 2; gate 1 = 1 0 1
            """);
    }

    private static void movesMost() {
        SAYS.edge("9: 9 of 6: six are moved, kept", """
            rooms 0 6 = 2; rooms 1 6 = 2; puts 0 1 = 1; puts 0 2 = 2; puts 0 3 = 3; puts 0 4 = 4; puts 0 5 = 5; puts 0 6 = 6
            moves 0 1 9 0 = -106; items 0 =; items 1 = 1 2 3 4 5 6; buffer 1 4 = 6; gate 0 = 14 2 2; gate 1 = 7 1 2
            """);
        SAYS.edge("9: 9 of 6: six are moved, UNDONE; 6 of 6", """
            rooms 0 6 = 2; rooms 1 6 = 2; puts 0 1 = 1; puts 0 2 = 2; puts 0 3 = 3; puts 0 4 = 4; puts 0 5 = 5; puts 0 6 = 6
            moves 0 1 9 1 = -100; items 0 = 1 2 3 4 5 6; items 1 =; buffer 1 4 = 6; buffer 1 2 = 6; buffer 0 3 = 6
            moves 0 1 6 1 = 6; items 0 =; items 1 = 1 2 3 4 5 6
            """);
    }

    private static void movesMoreThanRoom() {
        SAYS.edge("9: the first of a again, though a has more ITEMS than ROOM", """
            rooms 0 6 = 2; puts 0 1 = 1; puts 0 2 = 2; puts 0 3 = 3; puts 0 4 = 4; puts 0 5 = 5; puts 0 6 = 6
            rooms 0 1 = 6; rooms 1 1 = 2; puts 1 9 = 1; moves 0 1 1 0 = -100; items 0 = 1 2 3 4 5 6
            moves 0 1 9 1 = -100; items 0 = 1 2 3 4 5 6; buffer 0 3 = 2; buffer 0 4 = 6
            takes 1 = 9; moves 0 1 2 1 = -100; items 0 = 1 2 3 4 5 6; items 1 =; buffer 1 2 = 2
            moves 0 1 2 0 = -101; items 0 = 2 3 4 5 6; items 1 = 1
            """);
        SAYS.edge("9: b has more ITEMS than ROOM", """
            rooms 1 3 = 2; puts 1 1 = 1; puts 1 2 = 2; puts 1 3 = 3; rooms 1 2 = 3; puts 0 7 = 1; moves 0 1 1 0 = -100
            items 0 = 7; items 1 = 1 2 3; takes 1 = 1; moves 0 1 1 0 = -100; takes 1 = 2; moves 0 1 1 0 = 1; items 1 = 3 7
            """);
    }

    private static void movesKept() {
        SAYS.edge("9: a is KEPT, be it by WORKER 0: nothing is TAKEN", """
            puts 0 4 = 1; keeps 0 0 = 1; moves 0 1 1 0 = -100; items 0 = 4; gate 0 = 4 2 2; gate 1 = 1 1 1; buffer 0 3 = 0
            moves 0 1 1 1 = -100; lets 0 0 = 0; moves 0 1 1 0 = 1
            """);
        SAYS.edge("9: b is KEPT, be it by WORKER 0: that ITEM is the first of a again", """
            puts 0 4 = 1; keeps 0 1 = 1; moves 0 1 1 0 = -100; items 0 = 4; items 1 =; gate 0 = 3 1 2; gate 1 = 3 2 2
            buffer 0 3 = 1; buffer 1 2 = 0; lets 0 1 = 0; moves 0 1 1 0 = 1; items 1 = 4
            """);
        SAYS.edge("9: another BUFFER that is KEPT is in nobody's way", "puts 0 4 = 1; keeps 0 2 = 1; moves 0 1 1 0 = 1; gate 2 = 1 0 1");
    }

    private static void movesServe() {
        SAYS.edge("9: then SERVING, UNDONE ahead of it", """
            puts 1 5 = 1; asks 0 0 1 0 = 0; moves 1 0 2 1 = -100; waiting = 0; worker 0 4 = NONE; items 1 = 5; items 0 =
            moves 1 0 2 0 = -101; waiting =; worker 0 4 = 5; items 0 =; items 1 =
            """);
        SAYS.edge("9: then SERVING, not while it moves", """
            rooms 0 1 = 2; asks 0 0 1 0 = 0; puts 1 5 = 1; puts 1 6 = 2; moves 1 0 2 0 = -101; items 1 = 6; items 0 =; worker 0 4 = 5
            moves 1 0 1 0 = 1; items 0 = 6
            """);
        SAYS.edge("9: then SERVING, not behind a refusal", """
            asks 0 2 1 0 = 0; gate 2 = 2 2 1; moves 0 1 1 1 = -100; gate 2 = 3 3 1; moves 0 0 1 0 = BAD; gate 2 = 3 3 1
            """);
    }

    private static void asksWhat() {
        SAYS.edge("10: WORKERS 0 .. 5, BUFFERS 0 .. N less 1", """
            asks 0 0 0 1 = 1; asks 5 2 0 1 = 1; told 4 = 2
            asks -1 0 0 1 = BAD; asks 6 0 0 1 = BAD; asks LOW 0 0 1 = BAD; asks HIGH 0 0 1 = BAD
            asks 0 -1 0 1 = BAD; asks 0 3 0 1 = BAD; asks 0 LOW 0 1 = BAD; asks 0 HIGH 0 1 = BAD
            items 0 = 1; items 2 = 1; works 8 = 2; told 4 = 2
            """);
        SAYS.edge("10: WISH 0 or 1; k 0 .. 9 to TAKE, too", """
            asks 0 0 0 0 = 1; asks 0 0 0 9 = 1; asks 0 0 1 0 = 1; asks 0 0 1 9 = 1; told 4 = 4
            asks 0 0 -1 1 = BAD; asks 0 0 2 1 = BAD; asks 0 0 HIGH 1 = BAD
            asks 0 0 0 -1 = BAD; asks 0 0 0 10 = BAD; asks 0 0 1 -1 = BAD; asks 0 0 1 10 = BAD; asks 0 0 1 LOW = BAD
            """);
        SAYS.edge("10: NO: it WAITS; BAD goes ahead of it", """
            asks 2 0 1 0 = 0; asks 2 0 1 0 = NO; asks 2 1 0 5 = NO; asks 2 3 0 5 = BAD; asks 2 1 0 10 = BAD; asks 2 1 2 5 = BAD
            items 1 =; waiting = 2; told 4 = 1; asks 1 1 0 5 = 1; items 1 = 5
            puts 0 7 = 1; worker 2 4 = 7; asks 2 1 0 5 = 1
            """);
    }

    private static void asksWaits() {
        SAYS.edge("10: if it WOULD BLOCK, it WAITS, the last of THE LINE: all six", """
            asks 3 0 1 4 = 0; waiting = 3; asks 0 0 1 0 = 0; asks 5 1 1 0 = 0; asks 1 0 1 0 = 0; asks 4 2 1 0 = 0; asks 2 0 1 0 = 0
            waiting = 3 0 5 1 4 2; works 9 = 6; worker 3 0 = 1; worker 3 1 = 0; worker 3 2 = 1; worker 3 3 = NONE; worker 3 4 = NONE
            asks 3 0 1 0 = NO; asks 2 0 1 0 = NO; told 4 = 6; back = 5; waiting = 3 0 5 1 4
            """);
        SAYS.edge("10: it is tried, then SERVING tries all that WAIT", """
            asks 0 0 1 0 = 0; gate 0 = 2 2 1; asks 1 0 1 0 = 0; gate 0 = 5 5 1; asks 2 1 0 5 = 1; gate 0 = 7 7 1; gate 1 = 1 0 1
            """);
        SAYS.edge("10: a WISH to PUT WAITS, too", """
            puts 0 1 = 1; puts 0 2 = 2; asks 5 0 0 0 = 0; worker 5 0 = 1; worker 5 1 = 0; worker 5 2 = 0; worker 5 3 = 0; worker 5 4 = NONE
            takes 0 = 1; items 0 = 2 0; worker 5 0 = 0; worker 5 1 = NONE; worker 5 2 = NONE; worker 5 3 = NONE; worker 5 4 = NONE
            """);
    }

    private static void asksDone() {
        SAYS.edge("10: 1 done at once: it does not WAIT", """
            asks 4 1 0 0 = 1; items 1 = 0; waiting =; worker 4 0 = 0; worker 4 1 = NONE; worker 4 2 = NONE; worker 4 3 = NONE
            asks 4 1 1 0 = 1; items 1 =; worker 4 4 = 0; worker 4 1 = NONE; worker 4 2 = NONE
            buffer 1 2 = 1; buffer 1 3 = 1; buffer 1 4 = 1; gate 1 = 2 0 1; told 4 = 2
            """);
        SAYS.edge("10: done at once, then SERVING of others", """
            rooms 0 1 = 2; puts 0 1 = 1; asks 0 0 0 2 = 0; asks 1 0 1 0 = 1; worker 1 4 = 1; items 0 = 2; waiting =
            asks 0 1 1 0 = 0; asks 2 1 0 8 = 1; worker 0 4 = 8; items 1 =; waiting =
            """);
    }

    private static void asksGot() {
        SAYS.edge("10: GOT: the KIND that it TOOK last by a WISH", """
            rooms 0 6 = 2; puts 0 7 = 1; puts 0 0 = 2; puts 0 9 = 3; puts 0 3 = 4
            asks 1 0 1 5 = 1; worker 1 4 = 7; asks 1 0 1 5 = 1; worker 1 4 = 0; worker 0 4 = NONE; worker 2 4 = NONE
            asks 1 0 0 5 = 1; worker 1 4 = 0; takes 0 = 9; worker 1 4 = 0; moves 0 1 1 0 = 1; worker 1 4 = 0
            asks 1 2 1 0 = 0; worker 1 4 = 0; cancels 1 = 0; worker 1 4 = 0; asks 1 0 1 0 = 1; worker 1 4 = 5
            """);
    }

    private static void asksKept() {
        SAYS.edge("10: KEPT by another one: not of his own WISH", """
            keeps 0 0 = 1; asks 0 0 0 4 = 1; asks 1 0 1 0 = 0; asks 5 0 0 4 = 0; items 0 = 4; asks 0 0 1 0 = 1; worker 0 4 = 4
            waiting = 1 5; items 0 =; lets 0 0 = 0; worker 1 4 = 4; items 0 =; waiting =
            """);
        SAYS.edge("10: his own WISH WOULD BLOCK, too: no ROOM, no ITEMS", """
            keeps 3 1 = 1; asks 3 1 1 0 = 0; cancels 3 = 0; asks 3 1 0 1 = 1; asks 3 1 0 2 = 1; asks 3 1 0 3 = 0; waiting = 3
            rooms 1 3 = 2; items 1 = 1 2 3; waiting =
            """);
        SAYS.edge("10: he may keep others, be in a QUEUE", """
            keeps 2 0 = 1; keeps 4 1 = 1; keeps 2 1 = BLOCK; asks 2 2 0 6 = 1; asks 2 1 0 6 = 0; waiting = 2; queued 1 = 2
            lets 4 1 = 0; keeper 1 0 = 2; items 1 = 6; waiting =
            """);
    }

    private static void servesSix() {
        SAYS.edge("10: SERVING ends when none of all could: six in one", """
            rooms 0 6 = 2; keeps 0 0 = 1; asks 0 0 1 0 = 0; asks 1 0 0 1 = 0; asks 2 0 0 2 = 0; asks 3 0 0 3 = 0; asks 4 0 0 4 = 0
            asks 5 0 0 5 = 0; waiting = 0 1 2 3 4 5; gate 0 = 28 27 1
            lets 0 0 = 0; waiting =; items 0 = 2 3 4 5; worker 0 4 = 1; gate 0 = 36 28 1; buffer 0 4 = 4
            """);
    }

    private static void servesInOrder() {
        SAYS.edge("10: SERVING: from the first of THE LINE on", """
            asks 5 0 1 0 = 0; asks 0 0 1 0 = 0; puts 0 3 = 1; worker 5 4 = 3; worker 0 4 = NONE; waiting = 0
            asks 5 0 1 0 = 0; puts 0 4 = 1; worker 0 4 = 4; worker 5 4 = 3; waiting = 5
            """);
        SAYS.edge("10: SERVING: when one could be done, all begins again with the first", """
            puts 0 3 = 1; puts 0 4 = 2; keeps 0 0 = 1; asks 1 0 0 5 = 0; asks 2 0 1 0 = 0; asks 3 1 1 0 = 0; gate 0 = 10 7 1; gate 1 = 2 2 1
            lets 0 0 = 0; worker 2 4 = 3; items 0 = 4 5; waiting = 3; gate 0 = 14 8 1; gate 1 = 3 3 1
            """);
        SAYS.edge("10: SERVING: one that is not the first is done, those ahead of it stay in their places", """
            asks 4 0 1 0 = 0; asks 3 1 1 0 = 0; asks 2 0 1 0 = 0; puts 1 8 = 1; waiting = 4 2; worker 3 4 = 8
            puts 1 9 = 1; items 1 = 9; waiting = 4 2
            """);
    }

    private static void cancelsWhat() {
        SAYS.edge("11: how many do; NO: it does not", """
            asks 0 0 1 0 = 0; asks 5 0 1 0 = 0; cancels 0 = 1; waiting = 5; cancels 0 = NO; cancels 5 = 0; waiting =; cancels 5 = NO
            cancels 3 = NO; told 4 = 4; gate 0 = 5 5 1; back = 3; waiting = 5; back = 2; waiting = 0 5
            """);
        SAYS.edge("11: WORKERS 0 .. 5", "asks 0 0 1 0 = 0; cancels -1 = BAD; cancels 6 = BAD; cancels LOW = BAD; cancels HIGH = BAD; waiting = 0");
        SAYS.edge("11: it WAITS no more: his WISH is not served, he may ask anew, the last then", """
            asks 1 0 1 0 = 0; asks 2 0 1 0 = 0; cancels 1 = 1; worker 1 0 = 0; worker 1 1 = NONE; worker 1 2 = NONE; worker 1 3 = NONE
            asks 1 0 1 0 = 0; waiting = 2 1; puts 0 5 = 1; worker 2 4 = 5; worker 1 4 = NONE; cancels 1 = 0; puts 0 6 = 1; items 0 = 6
            """);
    }

    private static void cancelsPlaces() {
        SAYS.edge("11: the first, the last and one between of six", """
            asks 0 0 1 0 = 0; asks 1 0 1 0 = 0; asks 2 0 1 0 = 0; asks 3 0 1 0 = 0; asks 4 0 1 0 = 0; asks 5 0 1 0 = 0
            cancels 0 = 5; waiting = 1 2 3 4 5; cancels 5 = 4; waiting = 1 2 3 4; cancels 2 = 3; waiting = 1 3 4
            asks 0 0 1 0 = 0; asks 2 0 1 0 = 0; asks 5 0 1 0 = 0; waiting = 1 3 4 0 2 5
            """);
        SAYS.edge("11: no GATE is entered, nothing is served; who keeps or is in a QUEUE stays so", """
            keeps 0 0 = 1; keeps 1 0 = BLOCK; asks 1 0 1 0 = 0; asks 0 0 1 0 = 0; gate 0 = 7 5 1; cancels 1 = 1; gate 0 = 7 5 1
            queued 0 = 1; cancels 0 = 0; keeper 0 0 = 0; keeper 0 1 = 1
            """);
    }
}
