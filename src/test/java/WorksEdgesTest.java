/** Promises 1 to 6, and the Terms they use, at their boundaries. */
public final class WorksEdgesTest {
    private static final Due DUE = new Due();
    private static final Script SAYS = new Script(DUE);

    public static void main(String[] args) {
        newObject();
        newObjectHasNothing();
        newDigest();
        beginsHowMany();
        beginsAnew();
        beginsStationsAnew();
        beginsNobodyThere();
        beginsKeepsWhatIsNoWorks();
        roomsHowLarge();
        roomsLessThanItems();
        roomsServe();
        stationNumbers();
        stationFull();
        guardsWhich();
        noServing();
        ticksHowMany();
        ticksTime();
        ticksKind();
        ticksHeld();
        ticksStarvedOfOne();
        ticksStarvedOfTwo();
        ticksTwoOfTheSame();
        ticksGuarded();
        ticksStationByStation();
        ticksServe();
        DUE.end();
    }

    private static void newObject() {
        SAYS.edge("1: BUFFERS 0 .. N less 1, N 3 at first", """
            works 0 = 3
            buffer 0 0 = 0; buffer 2 0 = 0; buffer 3 0 = BAD; buffer -1 0 = BAD
            puts 2 1 = 1; puts 3 1 = BAD; begins 3 = 3
            """);
        SAYS.edge("1: ROOM 2 at first", """
            buffer 0 1 = 2; buffer 1 1 = 2; buffer 2 1 = 2
            puts 0 1 = 1; puts 0 1 = 2; puts 0 1 = BLOCK
            puts 2 1 = 1; puts 2 1 = 2; puts 2 1 = BLOCK
            """);
        SAYS.edge("1: KEEPER none at first, KEPT 0 without one, none in a QUEUE", """
            keeper 0 0 = NONE; keeper 0 1 = 0; queued 0 =
            keeper 2 0 = NONE; keeper 2 1 = 0; queued 2 =
            lets 0 0 = NO; quits 0 = NO; quits 5 = NO; stuck = 0
            """);
        SAYS.edge("1: WORKERS 0 .. 5, none WAITS, GOT NONE at first", """
            worker 0 0 = 0; worker 0 1 = NONE; worker 0 2 = NONE; worker 0 3 = NONE; worker 0 4 = NONE
            worker 5 0 = 0; worker 5 1 = NONE; worker 5 2 = NONE; worker 5 3 = NONE; worker 5 4 = NONE
            worker 6 0 = BAD; worker -1 0 = BAD; waiting =; cancels 0 = NO; cancels 5 = NO
            """);
    }

    private static void newObjectHasNothing() {
        SAYS.edge("1: all counts 0", """
            works 1 = 0; works 2 = 0; works 3 = 0; master = 0 0 0; works 7 = 0; works 8 = 0; works 9 = 0
            items 0 =; buffer 0 2 = 0; buffer 0 3 = 0; buffer 0 4 = 0; gate 0 = 0 0 0
            items 1 =; buffer 1 2 = 0; buffer 1 3 = 0; buffer 1 4 = 0; gate 1 = 0 0 0
            items 2 =; buffer 2 2 = 0; buffer 2 3 = 0; buffer 2 4 = 0; gate 2 = 0 0 0
            told 0 = 0; told 1 = 0; told 2 = 0; told 3 = 0; told 4 = 0
            """);
        SAYS.edge("1: no STATIONS, THE TEXT is empty, no STATE", """
            of 0 0 = BAD; guards 0 0 = BAD; ticks 1 = 0; works 3 = 0
            clear = 0; does = -10; told 4 = 1; back = 0; back = NO
            """);
    }

    private static void newDigest() {
        DUE.about("1 and 29: the digest of a new object");
        long h = 1932;
        int[] toldAndWorks = {0, 0, 0, 0, 0, 3, 0, 0, 0, 0, 0, 0, 0, 0, 0};
        int[] aBuffer = {0, 2, 0, 0, 0, 0, 0, 0, -1, 0, 0};
        int[] aWorker = {0, -1, -1, -1, -1};
        h = mixed(h, toldAndWorks, 1);
        h = mixed(h, aBuffer, 3);
        h = mixed(h, aWorker, 6);
        DUE.is("digest()", new Works().digest(), 31 * h);
    }

    private static long mixed(long h, int[] numbers, int times) {
        long mix = h;
        for (int i = 0; i < times; i++) {
            for (int v : numbers) {
                mix = 31 * mix + v;
            }
        }
        return mix;
    }

    private static void beginsHowMany() {
        SAYS.edge("2: N 1 .. 6: the least", """
            begins 1 = 3; works 0 = 1; buffer 0 1 = 2; puts 0 9 = 1; told 4 = 2
            buffer 1 0 = BAD; puts 1 0 = BAD; takes 1 = BAD; moves 0 1 1 0 = BAD; keeps 0 1 = BAD
            begins 0 = BAD; begins -1 = BAD; begins LOW = BAD
            works 0 = 1; told 4 = 2
            """);
        SAYS.edge("2: N 1 .. 6: the most", """
            begins 6 = 3; works 0 = 6; buffer 5 1 = 2; puts 5 9 = 1; puts 5 8 = 2; puts 5 7 = BLOCK; items 5 = 9 8
            buffer 6 0 = BAD; puts 6 0 = BAD; keeper 6 0 = BAD
            begins 7 = BAD; begins HIGH = BAD; works 0 = 6
            """);
        SAYS.edge("2: what N was; S", """
            begins 1 = 3; begins 1 = 1; begins 6 = 1; begins 2 = 6; told 4 = 4
            back = 3; works 0 = 6; back = 2; works 0 = 1; back = 1; back = 0; works 0 = 3
            """);
    }

    private static void beginsAnew() {
        SAYS.edge("2: all anew: no ITEMS, ROOM 2, all counts 0 (ticks, too)", """
            begins 6 = 3; rooms 5 6 = 2; puts 5 1 = 1; puts 5 2 = 2; takes 5 = 1; takes 4 = BLOCK; moves 5 4 2 0 = -101
            station 0 NONE 1 1 0 = 0; ticks 30 = 0; works 2 = 30; works 3 = 30; doing 'p3 1(t2)' = 1; master = 2 1 2
            begins 6 = 6
            items 5 =; buffer 5 1 = 2; buffer 5 2 = 0; buffer 5 3 = 0; buffer 5 4 = 0; gate 5 = 0 0 0
            items 4 =; buffer 4 1 = 2; buffer 4 2 = 0; buffer 4 3 = 0; buffer 4 4 = 0; gate 4 = 0 0 0
            works 1 = 0; works 2 = 0; works 3 = 0; master = 0 0 0; works 7 = 0; works 8 = 0
            """);
        SAYS.edge("2: all anew, BUFFERS that were away meanwhile, too", """
            begins 6 = 3; rooms 5 6 = 2; puts 5 1 = 1; keeps 0 5 = 1; keeps 1 5 = BLOCK
            begins 1 = 6; begins 6 = 1
            items 5 =; buffer 5 1 = 2; buffer 5 2 = 0; gate 5 = 0 0 0; keeper 5 0 = NONE; keeper 5 1 = 0; queued 5 =
            puts 5 3 = 1; quits 1 = NO
            """);
        SAYS.edge("2: no STATIONS: there were 6, and there is room for 6 again", """
            station 0 1 2 9 9 = 0; guards 0 2 = NONE; station 0 NONE 1 1 0 = 1; station 0 NONE 1 1 0 = 2
            station 0 NONE 1 1 0 = 3; station 0 NONE 1 1 0 = 4; station 0 NONE 1 1 0 = 5; station 0 NONE 1 1 0 = FULL
            puts 0 4 = 1; puts 1 5 = 1; ticks 1 = 0; of 0 0 = 1; of 1 5 = 1
            begins 2 = 3; works 1 = 0; of 0 0 = BAD; ticks 1 = 0; works 3 = 0
            station 0 NONE 1 1 0 = 0
            of 0 0 = 0; of 0 1 = 0; of 0 2 = NONE; of 0 3 = 0; of 0 4 = 0; of 0 5 = 0; of 0 6 = NONE
            """);
    }

    private static void beginsStationsAnew() {
        SAYS.edge("2: no STATIONS: a new one has nothing of the one that had its number", """
            station 0 NONE 1 1 0 = 0; puts 0 1 = 1; puts 0 2 = 2; rooms 1 1 = 2; ticks 3 = 1; takes 1 = 1; ticks 1 = 1
            of 0 3 = 2; of 0 4 = 1; of 0 5 = 1; begins 3 = 3; station 1 NONE 0 1 0 = 0
            of 0 0 = 0; of 0 1 = 0; of 0 2 = NONE; of 0 3 = 0; of 0 4 = 0; of 0 5 = 0; of 0 6 = NONE
            """);
    }

    private static void beginsNobodyThere() {
        SAYS.edge("2: none WAITS, GOT NONE", """
            puts 1 7 = 1; asks 5 1 1 0 = 1; worker 5 4 = 7; asks 0 2 1 0 = 0; asks 4 0 1 0 = 0; works 9 = 2
            begins 3 = 3; waiting =; works 9 = 0; worker 5 4 = NONE
            worker 0 0 = 0; worker 0 1 = NONE; worker 0 2 = NONE; worker 4 0 = 0; cancels 0 = NO
            puts 0 1 = 1; items 0 = 1; gate 0 = 1 0 1; asks 4 2 1 0 = 0
            """);
        SAYS.edge("2: none keeps, none is in a QUEUE", """
            keeps 0 1 = 1; keeps 0 1 = 2; keeps 3 0 = 1; keeps 0 0 = BLOCK; keeps 3 1 = BLOCK; stuck = 0b1001
            begins 3 = 3; stuck = 0; keeper 1 0 = NONE; keeper 1 1 = 0; queued 0 =; queued 1 =
            lets 0 1 = NO; quits 0 = NO; quits 3 = NO; puts 1 4 = 1; keeps 3 1 = 1
            """);
    }

    private static void beginsKeepsWhatIsNoWorks() {
        SAYS.edge("2: how often refused, THE TEXT and the STATES are none of the works", """
            types 'p0 1'; begins 7 = BAD; back = NO; puts 0 8 = 1; puts 0 9 = 2
            begins 1 = 3; told 0 = 1; told 1 = 1; told 2 = 0; told 3 = 4; told 4 = 3
            does = 1; items 0 = 1; back = 3
            back = 2; items 0 = 8 9; works 0 = 3; back = 1; items 0 = 8; back = 0; items 0 =; back = NO
            """);
    }

    private static void roomsHowLarge() {
        SAYS.edge("3: ROOM 1 .. 6: the least", """
            rooms 0 1 = 2; buffer 0 1 = 1; puts 0 3 = 1; puts 0 4 = BLOCK; buffer 1 1 = 2
            rooms 0 0 = BAD; rooms 0 -1 = BAD; rooms 0 LOW = BAD; buffer 0 1 = 1; told 4 = 3
            """);
        SAYS.edge("3: ROOM 1 .. 6: the most", """
            rooms 2 6 = 2; buffer 2 1 = 6
            puts 2 0 = 1; puts 2 1 = 2; puts 2 2 = 3; puts 2 3 = 4; puts 2 4 = 5; puts 2 5 = 6; puts 2 6 = BLOCK
            items 2 = 0 1 2 3 4 5; buffer 2 4 = 6
            rooms 2 7 = BAD; rooms 2 HIGH = BAD; rooms 3 1 = BAD; rooms -1 1 = BAD; rooms LOW 1 = BAD; rooms HIGH 1 = BAD
            """);
        SAYS.edge("3: what it was; S", """
            rooms 1 6 = 2; rooms 1 6 = 6; rooms 1 1 = 6; told 4 = 3
            back = 2; buffer 1 1 = 6; back = 1; buffer 1 1 = 6; back = 0; buffer 1 1 = 2
            begins 6 = 3; rooms 5 3 = 2; rooms 6 3 = BAD
            """);
    }

    private static void roomsLessThanItems() {
        SAYS.edge("3: ITEMS stay, though they be more; PUT: as many ITEMS as ROOM or more", """
            rooms 0 6 = 2; puts 0 1 = 1; puts 0 2 = 2; puts 0 3 = 3; puts 0 4 = 4; puts 0 5 = 5; puts 0 6 = 6
            rooms 0 2 = 6; items 0 = 1 2 3 4 5 6; buffer 0 4 = 6; works 7 = 6
            puts 0 9 = BLOCK; takes 0 = 1; takes 0 = 2; takes 0 = 3; puts 0 9 = BLOCK
            takes 0 = 4; items 0 = 5 6; puts 0 9 = BLOCK
            takes 0 = 5; puts 0 9 = 2; items 0 = 6 9; puts 0 9 = BLOCK
            buffer 0 2 = 7; buffer 0 3 = 5; buffer 0 4 = 6; gate 0 = 16 4 1
            """);
    }

    private static void roomsServe() {
        SAYS.edge("3: then SERVING: as many as there is room for", """
            rooms 0 1 = 2; puts 0 1 = 1; asks 3 0 0 5 = 0; asks 1 0 0 6 = 0; asks 4 0 0 7 = 0
            rooms 0 2 = 1; items 0 = 1 5; waiting = 1 4
            rooms 0 6 = 2; items 0 = 1 5 6 7; waiting =; buffer 0 4 = 4
            """);
        SAYS.edge("3: then SERVING: tried, too, if ROOM is no more than it was", """
            asks 2 1 1 0 = 0; gate 1 = 2 2 1; rooms 0 2 = 2; gate 1 = 3 3 1; rooms 0 1 = 2; gate 1 = 4 4 1
            rooms 0 7 = BAD; gate 1 = 4 4 1; rooms 1 6 = 2; gate 1 = 5 5 1; gate 0 = 0 0 0; waiting = 2
            """);
        SAYS.edge("3: then SERVING: THE LINE may be empty", "rooms 0 6 = 2; works 8 = 0; waiting =");
    }

    private static void stationNumbers() {
        SAYS.edge("4: BUFFERS that are there, the first and the last", """
            station 0 0 0 1 0 = 0; station 2 2 2 1 0 = 1; station 2 NONE 0 1 0 = 2; told 4 = 3
            station -1 0 0 1 0 = BAD; station 3 0 0 1 0 = BAD
            station 0 -2 0 1 0 = BAD; station 0 3 0 1 0 = BAD
            station 0 0 -1 1 0 = BAD; station 0 0 3 1 0 = BAD
            station LOW 0 0 1 0 = BAD; station 0 LOW 0 1 0 = BAD; station 0 0 HIGH 1 0 = BAD
            works 1 = 3; told 4 = 3
            """);
        SAYS.edge("4: TIME 1 .. 9, ADD 0 .. 9", """
            station 0 NONE 1 1 0 = 0; station 0 NONE 1 9 9 = 1
            station 0 NONE 1 0 0 = BAD; station 0 NONE 1 10 0 = BAD; station 0 NONE 1 -1 0 = BAD; station 0 NONE 1 HIGH 0 = BAD
            station 0 NONE 1 1 -1 = BAD; station 0 NONE 1 1 10 = BAD; station 0 NONE 1 1 LOW = BAD; works 1 = 2
            """);
        SAYS.edge("4: the least works have one BUFFER for all three", """
            begins 1 = 3; station 0 0 0 9 9 = 0; station 0 1 0 1 1 = BAD; station 1 0 0 1 1 = BAD; station 0 0 1 1 1 = BAD
            """);
        SAYS.edge("4: the most works have BUFFER 5", "begins 6 = 3; station 5 5 5 1 0 = 0; station 6 5 5 1 0 = BAD");
        SAYS.edge("4: GUARD none at first, IDLE, LEFT 0, no KIND, counts 0", """
            station 0 1 2 9 9 = 0
            of 0 0 = 0; of 0 1 = 0; of 0 2 = NONE; of 0 3 = 0; of 0 4 = 0; of 0 5 = 0; of 0 6 = NONE; works 8 = 0
            """);
    }

    private static void stationFull() {
        SAYS.edge("4: FULL: 6; BAD goes ahead of it", """
            station 0 NONE 1 1 0 = 0; station 0 NONE 1 1 0 = 1; station 0 NONE 1 1 0 = 2
            station 0 NONE 1 1 0 = 3; station 0 NONE 1 1 0 = 4; station 0 NONE 1 1 0 = 5
            works 1 = 6; station 0 NONE 1 1 0 = FULL; station 0 NONE 1 10 0 = BAD; station 3 NONE 1 1 0 = BAD
            station 0 NONE 1 1 0 = FULL; told 2 = 2; told 0 = 2; works 1 = 6; told 4 = 6
            back = 5; works 1 = 5; of 5 0 = BAD; station 2 NONE 1 1 0 = 5; of 5 0 = 0; station 2 NONE 1 1 0 = FULL
            """);
    }

    private static void guardsWhich() {
        SAYS.edge("5: a STATION that is there", """
            guards 0 0 = BAD; station 0 NONE 1 1 0 = 0; guards 0 0 = NONE; guards 1 0 = BAD; guards -1 0 = BAD
            station 0 NONE 1 1 0 = 1; guards 1 0 = NONE; guards 2 0 = BAD; guards LOW 0 = BAD; guards HIGH 0 = BAD
            station 0 NONE 1 1 0 = 2; station 0 NONE 1 1 0 = 3; station 0 NONE 1 1 0 = 4; station 0 NONE 1 1 0 = 5
            guards 5 2 = NONE; of 5 6 = 2; of 4 6 = NONE; guards 6 0 = BAD
            """);
        SAYS.edge("5: BUFFER b that is there, NONE: none; what it was", """
            station 0 NONE 1 1 0 = 0; guards 0 2 = NONE; of 0 6 = 2; guards 0 0 = 2; of 0 6 = 0; guards 0 0 = 0
            guards 0 3 = BAD; guards 0 -2 = BAD; guards 0 LOW = BAD; guards 0 HIGH = BAD; of 0 6 = 0
            guards 0 NONE = 0; of 0 6 = NONE; guards 0 NONE = NONE; told 4 = 6; works 8 = 0
            back = 5; back = 4; of 0 6 = 0
            """);
        SAYS.edge("5: the most works have BUFFER 5", """
            begins 6 = 3; station 0 NONE 1 1 0 = 0; guards 0 5 = NONE; guards 0 6 = BAD; of 0 6 = 5
            """);
    }

    private static void noServing() {
        SAYS.edge("4 and 5: no GATE is entered, nothing is served", """
            asks 0 2 1 0 = 0; gate 2 = 2 2 1; station 2 NONE 1 1 0 = 0; gate 2 = 2 2 1; guards 0 2 = NONE; gate 2 = 2 2 1; works 8 = 2
            """);
    }

    private static void ticksHowMany() {
        SAYS.edge("6: n (1 .. 30)", """
            ticks 1 = 0; works 2 = 1; ticks 30 = 0; works 2 = 31; told 4 = 2
            ticks 0 = BAD; ticks 31 = BAD; ticks -1 = BAD; ticks LOW = BAD; ticks HIGH = BAD; works 2 = 31
            back = 1; works 2 = 1; back = 0; works 2 = 0
            """);
        SAYS.edge("6: how many ITEMS were MADE, by all STATIONS, in all TICKS", """
            rooms 0 6 = 2; rooms 1 6 = 2; puts 0 1 = 1; puts 0 2 = 2; puts 0 3 = 3; puts 0 4 = 4; puts 0 5 = 5
            station 0 NONE 1 1 0 = 0; station 0 NONE 1 2 0 = 1
            ticks 1 = 0; ticks 1 = 1; ticks 1 = 2; items 1 = 1 3 2; items 0 =
            of 0 3 = 2; of 1 3 = 1; ticks 30 = 2; of 0 3 = 3; of 1 3 = 2
            """);
        SAYS.edge("6: six STATIONS, UNGUARDED all of them", """
            station 0 NONE 1 1 0 = 0; station 0 NONE 1 1 0 = 1; station 0 NONE 1 1 0 = 2
            station 0 NONE 1 1 0 = 3; station 0 NONE 1 1 0 = 4; station 0 NONE 1 1 0 = 5
            ticks 30 = 0; works 3 = 180; of 0 5 = 30; of 5 5 = 30; gate 0 = 180 180 1
            guards 5 2 = NONE; ticks 1 = 0; works 3 = 185; gate 2 = 1 0 1
            """);
    }

    private static void ticksTime() {
        SAYS.edge("6: TIME 1: DONE, PUT and IDLE again in the TICK behind", """
            station 0 NONE 1 1 0 = 0; puts 0 7 = 1; ticks 1 = 0; of 0 0 = 1; of 0 1 = 1; of 0 2 = 7; items 0 =
            ticks 1 = 1; items 1 = 7; of 0 0 = 0; of 0 1 = 0; of 0 2 = NONE; of 0 3 = 1; of 0 5 = 1
            """);
        SAYS.edge("6: TIME 9: LEFT is one less, if that is 0, it is DONE", """
            station 0 NONE 1 9 0 = 0; puts 0 7 = 1; puts 0 8 = 2; ticks 1 = 0; of 0 1 = 9; ticks 8 = 0
            of 0 0 = 1; of 0 1 = 1; of 0 2 = 7; items 1 =; items 0 = 8
            ticks 1 = 1; items 1 = 7; of 0 0 = 1; of 0 1 = 9; of 0 2 = 8; of 0 5 = 0
            """);
    }

    private static void ticksKind() {
        SAYS.edge("6: KIND by 10 left over, of one", """
            begins 6 = 3; puts 0 9 = 1; puts 1 9 = 1; puts 2 0 = 1; puts 3 0 = 1; puts 4 1 = 1
            station 0 NONE 5 1 0 = 0; station 1 NONE 5 1 1 = 1; station 2 NONE 5 1 0 = 2
            station 3 NONE 5 1 9 = 3; station 4 NONE 5 1 9 = 4; ticks 1 = 0
            of 0 2 = 9; of 1 2 = 0; of 2 2 = 0; of 3 2 = 9; of 4 2 = 0
            rooms 5 6 = 2; ticks 1 = 5; items 5 = 9 0 0 9 0
            """);
        SAYS.edge("6: KIND by 10 left over, of two", """
            begins 6 = 3; puts 0 9 = 1; puts 1 9 = 1; puts 2 5 = 1; puts 3 5 = 1; puts 4 4 = 1; puts 5 5 = 1
            station 0 1 2 1 9 = 0; station 3 2 2 1 0 = 1; station 4 5 2 1 0 = 2; ticks 1 = 0
            of 0 2 = 7; of 1 2 = 0; of 2 2 = 9
            """);
    }

    private static void ticksHeld() {
        SAYS.edge("6: a PUT that WOULD BLOCK, OUT has as many ITEMS as ROOM: HELD one more, nothing TAKEN", """
            station 0 NONE 1 1 0 = 0; rooms 1 1 = 2; puts 1 9 = 1; puts 0 4 = 1; puts 0 5 = 2; ticks 1 = 0
            ticks 1 = 0; of 0 0 = 2; of 0 1 = 0; of 0 2 = 4; of 0 3 = 0; of 0 4 = 1; of 0 5 = 0
            items 0 = 5; items 1 = 9; gate 1 = 2 1 1; gate 0 = 3 0 1; buffer 1 2 = 1
            ticks 2 = 0; of 0 0 = 2; of 0 4 = 3; gate 1 = 4 3 1
            takes 1 = 9; ticks 1 = 1; items 1 = 4; items 0 =; of 0 0 = 1; of 0 1 = 1; of 0 2 = 5; of 0 4 = 3; of 0 3 = 1
            """);
        SAYS.edge("6: a PUT that WOULD BLOCK, OUT has more ITEMS than ROOM", """
            station 0 NONE 1 1 0 = 0; puts 1 1 = 1; puts 1 2 = 2; rooms 1 1 = 2; puts 0 4 = 1; ticks 1 = 0
            ticks 1 = 0; of 0 4 = 1; takes 1 = 1; ticks 1 = 0; of 0 4 = 2; takes 1 = 2; ticks 1 = 1; of 0 4 = 2; items 1 = 4
            """);
        SAYS.edge("6: a PUT that WOULD BLOCK, OUT is KEPT, though empty", """
            station 0 NONE 1 1 0 = 0; keeps 0 1 = 1; puts 0 4 = 1; ticks 2 = 0; of 0 4 = 1; of 0 0 = 2; items 1 =
            lets 0 1 = 0; ticks 1 = 1; items 1 = 4
            """);
        SAYS.edge("6: OUT is IN 0: what it holds itself is in its way", """
            station 0 NONE 0 1 1 = 0; rooms 0 1 = 2; puts 0 4 = 1; ticks 1 = 0; of 0 2 = 5; puts 0 9 = 1
            ticks 1 = 0; of 0 4 = 1; items 0 = 9; takes 0 = 9; ticks 1 = 1; items 0 =; of 0 0 = 1; of 0 2 = 6; buffer 0 2 = 3
            """);
    }

    private static void ticksStarvedOfOne() {
        SAYS.edge("6: a TAKE that WOULD BLOCK: STARVED one more", """
            station 0 NONE 1 3 5 = 0; ticks 1 = 0; of 0 5 = 1; of 0 0 = 0; of 0 1 = 0; of 0 2 = NONE
            gate 0 = 1 1 1; gate 1 = 0 0 0; buffer 0 3 = 0; ticks 30 = 0; of 0 5 = 31; of 0 4 = 0; of 0 3 = 0
            """);
        SAYS.edge("6: a TAKE that WOULD BLOCK, IN 0 is KEPT, be it by WORKER 0", """
            station 0 NONE 1 1 0 = 0; puts 0 6 = 1; keeps 0 0 = 1; ticks 1 = 0; of 0 5 = 1; items 0 = 6; gate 0 = 3 1 1
            lets 0 0 = 0; ticks 1 = 0; items 0 =; of 0 0 = 1; of 0 5 = 1; buffer 0 3 = 1
            """);
        SAYS.edge("6: BUSY, it needs nothing", """
            station 0 NONE 1 2 0 = 0; puts 0 1 = 1; ticks 2 = 0; gate 0 = 2 0 1; of 0 5 = 0; of 0 0 = 1; gate 1 = 0 0 0
            """);
    }

    private static void ticksStarvedOfTwo() {
        SAYS.edge("6: it needs an ITEM of IN 0 and another one of IN 1, neither KEPT; if not so, nothing goes", """
            station 0 1 2 1 0 = 0; ticks 1 = 0; of 0 5 = 1; gate 0 = 1 1 1; gate 1 = 1 1 1
            puts 0 3 = 1; ticks 1 = 0; of 0 5 = 2; items 0 = 3; buffer 0 3 = 0; gate 0 = 3 2 1; gate 1 = 2 2 1
            takes 0 = 3; puts 1 4 = 1; ticks 1 = 0; of 0 5 = 3; items 1 = 4; gate 0 = 5 3 1; gate 1 = 4 3 1
            puts 0 3 = 1; keeps 0 0 = 1; ticks 1 = 0; of 0 5 = 4; items 0 = 3; items 1 = 4; gate 0 = 8 4 1; gate 1 = 5 4 1
            lets 0 0 = 0; keeps 0 1 = 1; ticks 1 = 0; of 0 5 = 5; items 0 = 3; items 1 = 4; gate 0 = 10 5 1; gate 1 = 7 5 1
            lets 0 1 = 0; ticks 1 = 0; items 0 =; items 1 =; buffer 0 3 = 2; buffer 1 3 = 1; gate 0 = 11 5 1; gate 1 = 9 5 1
            of 0 0 = 1; of 0 1 = 1; of 0 2 = 7; of 0 5 = 5; gate 2 = 0 0 0
            """);
        SAYS.edge("6: each the first then; IN 1 less than IN 0", """
            station 2 0 1 1 1 = 0; puts 0 2 = 1; puts 0 9 = 2; puts 2 3 = 1; puts 2 9 = 2; ticks 1 = 0
            items 0 = 9; items 2 = 9; of 0 2 = 6; gate 0 = 3 0 1; gate 2 = 3 0 1
            """);
    }

    private static void ticksTwoOfTheSame() {
        SAYS.edge("6: the same is entered twice, and needs two ITEMS", """
            station 0 0 1 1 0 = 0; ticks 1 = 0; of 0 5 = 1; gate 0 = 2 2 2
            puts 0 4 = 1; ticks 1 = 0; of 0 5 = 2; items 0 = 4; buffer 0 3 = 0; gate 0 = 5 4 2
            puts 0 5 = 2; ticks 1 = 0; items 0 =; buffer 0 3 = 2; of 0 2 = 9; of 0 5 = 2; gate 0 = 8 4 2
            """);
        SAYS.edge("6: of three of the same the first two go", """
            station 1 1 0 1 0 = 0; rooms 1 3 = 2; puts 1 1 = 1; puts 1 2 = 2; puts 1 8 = 3; ticks 1 = 0
            items 1 = 8; of 0 2 = 3; buffer 1 3 = 2
            """);
        SAYS.edge("6: the same, KEPT", """
            station 1 1 0 1 0 = 0; puts 1 1 = 1; puts 1 2 = 2; keeps 5 1 = 1; ticks 1 = 0
            items 1 = 1 2; of 0 5 = 1; gate 1 = 5 2 2; buffer 1 3 = 0
            """);
    }

    private static void ticksGuarded() {
        SAYS.edge("6: GUARD: entered, and left behind all this; else UNGUARDED is one more", """
            station 0 NONE 1 1 0 = 0; guards 0 2 = NONE; ticks 1 = 0; gate 2 = 1 0 1; works 3 = 0; of 0 5 = 1
            guards 0 0 = 2; ticks 1 = 0; gate 0 = 3 2 2; works 3 = 0
            guards 0 NONE = 0; ticks 1 = 0; works 3 = 1; gate 0 = 4 3 2; gate 2 = 1 0 1
            """);
        SAYS.edge("6: it ends by leaving OUT's GATE, not the GUARD's", """
            station 0 NONE 1 1 0 = 0; guards 0 1 = NONE; rooms 1 1 = 2; puts 0 4 = 1; puts 1 9 = 1; ticks 1 = 0; gate 1 = 2 0 1
            ticks 1 = 0; of 0 4 = 1; gate 1 = 4 1 2
            """);
        SAYS.edge("6: it ends outside these GATES, within the GUARD's", """
            station 0 0 0 1 0 = 0; guards 0 0 = NONE; ticks 1 = 0; gate 0 = 3 2 3; of 0 5 = 1
            puts 0 1 = 1; puts 0 2 = 2; ticks 1 = 0; gate 0 = 8 2 3; of 0 0 = 1
            """);
        SAYS.edge("6: of a GUARD it is the GATE alone: it may be KEPT", """
            station 0 NONE 1 1 0 = 0; guards 0 2 = NONE; keeps 0 2 = 1; puts 0 4 = 1; ticks 2 = 1; items 1 = 4; gate 2 = 3 0 1
            """);
    }

    private static void ticksStationByStation() {
        SAYS.edge("6: STATION by STATION: a later one has what an earlier one PUT in the same TICK", """
            station 0 NONE 1 1 0 = 0; station 1 NONE 2 1 0 = 1; puts 0 5 = 1; ticks 1 = 0; of 1 5 = 1
            ticks 1 = 1; items 1 =; of 1 0 = 1; of 1 2 = 5; buffer 1 4 = 1; ticks 1 = 1; items 2 = 5
            """);
        SAYS.edge("6: STATION by STATION: an earlier one has it a TICK later", """
            station 1 NONE 2 1 0 = 0; station 0 NONE 1 1 0 = 1; puts 0 5 = 1; ticks 1 = 0; of 0 5 = 1
            ticks 1 = 1; items 1 = 5; of 0 5 = 2; of 0 0 = 0; ticks 1 = 0; items 1 =; of 0 0 = 1; ticks 1 = 1; items 2 = 5
            """);
    }

    private static void ticksServe() {
        SAYS.edge("6: SERVING behind each: ROOM is free for the next TICK", """
            station 0 NONE 1 1 0 = 0; puts 0 5 = 1; puts 0 6 = 2; rooms 1 1 = 2; asks 2 1 1 0 = 0
            ticks 3 = 2; worker 2 4 = 5; items 1 = 6; of 0 4 = 0
            """);
        SAYS.edge("6: SERVING behind the last, too", """
            station 0 NONE 1 1 0 = 0; puts 0 5 = 1; asks 0 1 1 0 = 0; ticks 1 = 0; waiting = 0; ticks 1 = 1
            waiting =; worker 0 4 = 5; items 1 =; buffer 1 4 = 1
            """);
        SAYS.edge("6: SERVING behind each, be there no STATION", """
            asks 5 0 1 0 = 0; gate 0 = 2 2 1; ticks 5 = 0; gate 0 = 7 7 1; waiting = 5; ticks 0 = BAD; gate 0 = 7 7 1
            """);
    }
}
