/** Promises 12 to 17, keeping, and the Terms they use, at their boundaries. */
public final class KeepingEdgesTest {
    private static final Due DUE = new Due();
    private static final Script SAYS = new Script(DUE);

    public static void main(String[] args) {
        keepsWho();
        keepsHowOften();
        keepsQueue();
        keepsOneQueue();
        letsWho();
        letsHowOften();
        letsNext();
        letsServe();
        quitsWho();
        quitsPlaces();
        keeperTold();
        queueTold();
        stuckRings();
        stuckNot();
        stuckNoMore();
        DUE.end();
    }

    private static void keepsWho() {
        SAYS.edge("12: WORKERS 0 .. 5, BUFFERS 0 .. N less 1", """
            keeps 0 0 = 1; keeps 5 2 = 1; told 4 = 2
            keeps -1 1 = BAD; keeps 6 1 = BAD; keeps LOW 1 = BAD; keeps HIGH 1 = BAD
            keeps 1 -1 = BAD; keeps 1 3 = BAD; keeps 1 LOW = BAD; keeps 1 HIGH = BAD
            keeper 1 0 = NONE; gate 1 = 0 0 0; told 4 = 2
            """);
        SAYS.edge("12: the most works", "begins 6 = 3; keeps 5 5 = 1; keeps 5 6 = BAD; keeper 5 0 = 5");
    }

    private static void keepsHowOften() {
        SAYS.edge("12: becomes KEEPER, if there is none, or has KEPT it once more; the GATE is entered and left; S", """
            keeps 0 1 = 1; keeper 1 0 = 0; keeper 1 1 = 1; gate 1 = 1 0 1; keeps 0 1 = 2; keeps 0 1 = 3; keeper 1 1 = 3; gate 1 = 3 0 1
            keeps 0 2 = 1; keeps 0 0 = 1; keeper 0 0 = 0; keeper 2 0 = 0; queued 1 =; told 4 = 5
            back = 4; back = 3; back = 2; keeper 1 1 = 2; back = 1; back = 0; keeper 1 0 = NONE; keeper 1 1 = 0; gate 1 = 0 0 0
            """);
        SAYS.edge("12: no SERVING; ITEMS are as they were; who WAITS may keep", """
            puts 0 4 = 1; asks 3 1 1 0 = 0; gate 1 = 2 2 1; keeps 3 1 = 1; gate 1 = 3 2 1; keeps 2 0 = 1; gate 1 = 3 2 1
            items 0 = 4; waiting = 3
            """);
    }

    private static void keepsQueue() {
        SAYS.edge("12: BLOCK: another one keeps it, w is the last of its QUEUE: five can be", """
            keeps 3 1 = 1; keeps 5 1 = BLOCK; keeps 0 1 = BLOCK; keeps 4 1 = BLOCK; keeps 1 1 = BLOCK; keeps 2 1 = BLOCK
            queued 1 = 5 0 4 1 2; keeper 1 0 = 3; keeper 1 1 = 1; told 4 = 6; told 1 = 0
            gate 1 = 6 0 1; keeps 3 1 = 2; queued 1 = 5 0 4 1 2; queued 0 =
            """);
        SAYS.edge("12: BLOCK leaves a STATE", "keeps 3 1 = 1; keeps 0 1 = BLOCK; told 4 = 2; back = 1; queued 1 =; gate 1 = 1 0 1; keeps 0 2 = 1");
    }

    private static void keepsOneQueue() {
        SAYS.edge("12: NO: w is in a QUEUE, a WORKER is in one at most; BAD goes ahead of it", """
            keeps 0 0 = 1; keeps 1 1 = 1; keeps 1 0 = BLOCK; keeps 1 0 = NO; keeps 1 2 = NO; keeps 1 1 = NO; keeps 1 3 = BAD
            queued 0 = 1; queued 1 =; queued 2 =; keeper 1 1 = 1; keeper 2 0 = NONE; gate 2 = 0 0 0; told 4 = 3
            lets 0 0 = 0; keeper 0 0 = 1; keeps 1 1 = 2; keeps 1 0 = 2
            """);
    }

    private static void letsWho() {
        SAYS.edge("13: WORKERS 0 .. 5, BUFFERS 0 .. N less 1; none is no WORKER", """
            keeps 0 0 = 1; keeps 5 2 = 1; lets -1 1 = BAD; lets 6 0 = BAD; lets LOW 0 = BAD; lets HIGH 0 = BAD
            lets 0 -1 = BAD; lets 0 3 = BAD; lets 0 LOW = BAD; lets 0 HIGH = BAD; told 4 = 2; gate 0 = 1 0 1
            lets 0 0 = 0; lets 5 2 = 0
            """);
        SAYS.edge("13: NO: w is not its KEEPER: there is none, another one is, he is in its QUEUE", """
            lets 0 0 = NO; lets 5 2 = NO; keeps 2 0 = 1; keeps 1 0 = BLOCK; lets 1 0 = NO; lets 0 0 = NO; lets 2 1 = NO
            keeper 0 0 = 2; queued 0 = 1; gate 0 = 2 0 1; lets 1 3 = BAD; told 1 = 5
            lets 2 0 = 0; lets 2 0 = NO; lets 1 0 = 0; lets 1 0 = NO; told 4 = 4
            """);
    }

    private static void letsHowOften() {
        SAYS.edge("13: w has KEPT it once less; the GATE is entered and left; S", """
            keeps 4 1 = 1; keeps 4 1 = 2; keeps 4 1 = 3; lets 4 1 = 2; keeper 1 0 = 4; keeper 1 1 = 2; lets 4 1 = 1; keeper 1 0 = 4
            puts 1 0 = BLOCK; lets 4 1 = 0; keeper 1 0 = NONE; keeper 1 1 = 0; gate 1 = 7 1 1; puts 1 0 = 1
            back = 5; back = 4; keeper 1 0 = 4; keeper 1 1 = 1
            """);
    }

    private static void letsNext() {
        SAYS.edge("13: 0: the first of the QUEUE becomes KEEPER, KEPT 1; not ahead of that", """
            keeps 0 2 = 1; keeps 0 2 = 2; keeps 5 2 = BLOCK; keeps 1 2 = BLOCK; lets 0 2 = 1; keeper 2 0 = 0; queued 2 = 5 1
            lets 0 2 = 0; keeper 2 0 = 5; keeper 2 1 = 1; queued 2 = 1; quits 5 = NO; keeps 5 2 = 2; lets 5 2 = 1; lets 5 2 = 0
            keeper 2 0 = 1; keeper 2 1 = 1; queued 2 =; lets 1 2 = 0; keeper 2 0 = NONE; keeper 2 1 = 0
            """);
        SAYS.edge("13: he that let may keep again, the last of the QUEUE then", """
            keeps 0 2 = 1; keeps 5 2 = BLOCK; keeps 4 2 = BLOCK; lets 0 2 = 0; keeps 0 2 = BLOCK; queued 2 = 4 0; keeper 2 0 = 5
            lets 5 2 = 0; lets 4 2 = 0; keeper 2 0 = 0
            """);
        SAYS.edge("13: the whole QUEUE of five", """
            keeps 0 0 = 1; keeps 5 0 = BLOCK; keeps 4 0 = BLOCK; keeps 3 0 = BLOCK; keeps 2 0 = BLOCK; keeps 1 0 = BLOCK
            lets 0 0 = 0; lets 5 0 = 0; lets 4 0 = 0; queued 0 = 2 1; lets 3 0 = 0; lets 2 0 = 0; queued 0 =; lets 1 0 = 0; keeper 0 0 = NONE
            """);
    }

    private static void letsServe() {
        SAYS.edge("13: then SERVING: none keeps it: all that WAIT there", """
            puts 0 6 = 1; keeps 0 0 = 1; asks 2 0 1 0 = 0; asks 3 0 0 1 = 0; lets 0 0 = 0; worker 2 4 = 6; items 0 = 1; waiting =
            """);
        SAYS.edge("13: then SERVING: the new KEEPER's own WISH, no other's", """
            puts 0 6 = 1; puts 0 7 = 2; keeps 0 0 = 1; keeps 1 0 = BLOCK; asks 2 0 1 0 = 0; asks 1 0 1 0 = 0; lets 0 0 = 0
            worker 1 4 = 6; waiting = 2; items 0 = 7; lets 1 0 = 0; worker 2 4 = 7; waiting =
            """);
        SAYS.edge("13: then SERVING: tried, too, while it is KEPT yet; not behind a refusal", """
            keeps 0 0 = 1; keeps 0 0 = 2; asks 2 1 1 0 = 0; gate 1 = 2 2 1; lets 0 0 = 1; gate 1 = 3 3 1; lets 1 0 = NO; gate 1 = 3 3 1
            lets 0 0 = 0; gate 1 = 4 4 1; gate 0 = 4 0 1
            """);
    }

    private static void quitsWho() {
        SAYS.edge("14: in no QUEUE any more: the BUFFER; NO: in none", """
            quits 0 = NO; keeps 0 0 = 1; quits 0 = NO; keeps 5 0 = BLOCK; quits 5 = 0; queued 0 =; quits 5 = NO; keeper 0 0 = 0
            keeps 0 2 = 1; keeps 5 2 = BLOCK; quits 5 = 2; gate 2 = 2 0 1; told 4 = 6; told 1 = 3
            back = 5; queued 2 = 5
            """);
        SAYS.edge("14: WORKERS 0 .. 5", """
            keeps 1 1 = 1; keeps 0 1 = BLOCK; quits -1 = BAD; quits 6 = BAD; quits LOW = BAD; quits HIGH = BAD; queued 1 = 0; quits 0 = 1
            """);
        SAYS.edge("14: no GATE is entered, nothing is served; his WISH stays; he may keep anew", """
            keeps 1 1 = 1; keeps 0 1 = BLOCK; asks 0 1 1 0 = 0; gate 1 = 4 2 1; quits 0 = 1; gate 1 = 4 2 1; waiting = 0
            lets 1 1 = 0; keeper 1 0 = NONE; keeps 0 1 = 1
            """);
    }

    private static void quitsPlaces() {
        SAYS.edge("14: the first, the last and one between of five", """
            keeps 0 1 = 1; keeps 1 1 = BLOCK; keeps 2 1 = BLOCK; keeps 3 1 = BLOCK; keeps 4 1 = BLOCK; keeps 5 1 = BLOCK
            quits 1 = 1; queued 1 = 2 3 4 5; quits 5 = 1; queued 1 = 2 3 4; quits 3 = 1; queued 1 = 2 4
            keeps 1 1 = BLOCK; queued 1 = 2 4 1; lets 0 1 = 0; keeper 1 0 = 2
            """);
    }

    private static void keeperTold() {
        SAYS.edge("15: what 0 .. 2, BUFFERS 0 .. N less 1; NONE without a KEEPER, KEPT 0 without one", """
            keeps 5 2 = 1; keeps 5 2 = 2; keeps 0 2 = BLOCK; keeper 2 0 = 5; keeper 2 1 = 2; keeper 2 2 = 1
            keeper 0 0 = NONE; keeper 0 1 = 0; keeper 0 2 = 0
            keeper 0 -1 = BAD; keeper 0 3 = BAD; keeper 0 LOW = BAD; keeper 0 HIGH = BAD
            keeper -1 0 = BAD; keeper 3 0 = BAD; keeper LOW 0 = BAD; keeper HIGH 0 = BAD; told 4 = 3
            """);
    }

    private static void queueTold() {
        SAYS.edge("16: the i-th of the QUEUE; NONE behind the last; BAD: i below 0", """
            keeps 0 0 = 1; keeps 5 0 = BLOCK; keeps 4 0 = BLOCK; keeps 3 0 = BLOCK; keeps 2 0 = BLOCK; keeps 1 0 = BLOCK
            queue 0 0 = 5; queue 0 1 = 4; queue 0 4 = 1; queue 0 5 = NONE; queue 0 6 = NONE; queue 0 HIGH = NONE; queue 2 0 = NONE
            queue 0 -1 = BAD; queue 0 LOW = BAD; queue -1 0 = BAD; queue 3 0 = BAD; queue LOW 0 = BAD; queue HIGH 0 = BAD; told 4 = 6
            """);
        SAYS.edge("16: an empty QUEUE; one that was longer", """
            queue 0 0 = NONE; queue 0 1 = NONE; keeps 0 0 = 1; queue 0 0 = NONE; keeps 1 0 = BLOCK; keeps 2 0 = BLOCK; lets 0 0 = 0
            queue 0 0 = 2; queue 0 1 = NONE; quits 2 = 0; queue 0 0 = NONE
            """);
    }

    private static void stuckRings() {
        SAYS.edge("17: a ring of two, the least that can be", """
            keeps 0 0 = 1; keeps 5 1 = 1; stuck = 0; keeps 0 1 = BLOCK; stuck = 0; keeps 5 0 = BLOCK; stuck = 0b100001
            """);
        SAYS.edge("17: a ring of six, the most", """
            begins 6 = 3; keeps 0 0 = 1; keeps 1 1 = 1; keeps 2 2 = 1; keeps 3 3 = 1; keeps 4 4 = 1; keeps 5 5 = 1
            keeps 0 5 = BLOCK; keeps 1 0 = BLOCK; keeps 2 1 = BLOCK; keeps 3 2 = BLOCK; keeps 4 3 = BLOCK; stuck = 0
            keeps 5 4 = BLOCK; stuck = 0b111111
            """);
        SAYS.edge("17: two rings, and one of three", """
            begins 6 = 3; keeps 0 0 = 1; keeps 1 1 = 1; keeps 2 2 = 1; keeps 3 3 = 1; keeps 4 4 = 1; keeps 5 5 = 1
            keeps 0 1 = BLOCK; keeps 1 0 = BLOCK; stuck = 0b11; keeps 3 4 = BLOCK; keeps 4 5 = BLOCK; stuck = 0b11
            keeps 5 3 = BLOCK; stuck = 0b111011
            """);
    }

    private static void stuckNot() {
        SAYS.edge("17: he waits for one that is STUCK, but it is not he himself", """
            keeps 0 0 = 1; keeps 1 1 = 1; keeps 0 1 = BLOCK; keeps 1 0 = BLOCK; keeps 2 2 = 1; keeps 2 1 = BLOCK; keeps 3 2 = BLOCK
            stuck = 0b11; queued 1 = 0 2
            """);
        SAYS.edge("17: a chain that ends with a KEEPER in no QUEUE", """
            keeps 0 0 = 1; keeps 1 1 = 1; keeps 2 2 = 1; keeps 0 1 = BLOCK; keeps 1 2 = BLOCK; stuck = 0; keeps 3 0 = BLOCK; stuck = 0
            """);
        SAYS.edge("17: a KEEPER that keeps once more is in no QUEUE; to WAIT is not to be in one", """
            keeps 0 0 = 1; keeps 0 0 = 2; stuck = 0; keeps 1 1 = 1; asks 0 1 1 0 = 0; asks 1 0 1 0 = 0; stuck = 0; waiting = 0 1
            """);
        SAYS.edge("17: second in a QUEUE he is STUCK, too", """
            keeps 0 0 = 1; keeps 1 1 = 1; keeps 2 1 = BLOCK; keeps 0 1 = BLOCK; queued 1 = 2 0; keeps 1 0 = BLOCK; stuck = 0b11
            """);
    }

    private static void stuckNoMore() {
        SAYS.edge("17: by quits, by lets, by begins; back", """
            keeps 0 0 = 1; keeps 1 1 = 1; keeps 0 1 = BLOCK; keeps 1 0 = BLOCK; stuck = 0b11
            quits 0 = 1; stuck = 0; back = 4; stuck = 0b11
            lets 0 0 = 0; stuck = 0; keeper 0 0 = 1; back = 4; stuck = 0b11
            begins 3 = 3; stuck = 0; back = 4; stuck = 0b11; told 4 = 4
            """);
    }
}
