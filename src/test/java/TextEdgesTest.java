/** Promises 24 to 27, texts and STATES, and the Terms they use, at their boundaries. */
public final class TextEdgesTest {
    private static final Due DUE = new Due();
    private static final Script SAYS = new Script(DUE);
    private static final String FULL_OF_BLANKS = " ".repeat(120);

    public static void main(String[] args) {
        typeBytes();
        typeFull();
        clearAll();
        faultsOfEachByte();
        faultsTooEarly();
        faultsOfFigures();
        faultsDeep();
        faultsFarBehind();
        blanksAnywhere();
        ordersDone();
        ordersBlock();
        ordersNotThere();
        ordersKept();
        groupsMaster();
        groupsUndone();
        groupsWithin();
        textUndone();
        textCounts();
        textFull();
        doesServes();
        doesLeavesState();
        backHowMany();
        backWrapsAround();
        backWhichCalls();
        backNotTheText();
        backWorkers();
        backStations();
        DUE.end();
    }

    private static void typeBytes() {
        SAYS.edge("24: a byte (0 .. 127)", """
            type 0 = 1; type 127 = 2; type -1 = BAD; type 128 = BAD; type LOW = BAD; type HIGH = BAD; type 32 = 3; told 3 = 3; told 4 = 0
            """);
    }

    private static void typeFull() {
        SAYS.edge("24: FULL: 120; BAD goes ahead of it", "types '" + " ".repeat(119) + "'; told 3 = 119; type 120 = 120; does = -129;"
            + "type 112 = FULL; type 0 = FULL; type 128 = BAD; type -1 = BAD; told 3 = 120; does = -129; clear = 120; type 116 = 1; type 57 = 2; does = -1000");
    }

    private static void clearAll() {
        SAYS.edge("25: THE TEXT is empty: how many it had; no S", """
            clear = 0; told 3 = 0; types 'p01'; clear = 3; told 3 = 0; does = -10; clear = 0; told 4 = 0; told 0 = 0
            types 't0'; does = -1000; told 4 = 1
            """);
        SAYS.edge("25: of 120", "types '" + FULL_OF_BLANKS + "'; type 32 = FULL; clear = 120; clear = 0; type 0 = 1");
        SAYS.edge("25: what was typed ahead is gone", "types 'p0'; clear = 2; type 49 = 1; does = -10");
    }

    /** Behind a beginning each of the 128 bytes: those that complete it, those that it waits behind for more, all others. */
    private static void faultsOfEachByte() {
        eachByte("", "", "ptm( ", 0);
        eachByte("p", "", "0123456789 ", 0);
        eachByte("p0", "0123456789", " ", 1);
        eachByte("t", "0123456789", " ", -1000);
        eachByte("t0", " ", "ptm(", -1000);
        eachByte("m", "", "0123456789 ", 0);
        eachByte("m0", "", "0123456789 ", 0);
        eachByte("m00", "0123456789", " ", -1000);
        eachByte("(", ")", "ptm( ", 0);
        eachByte("((((", "", "ptm) ", 0);
        eachByte("(p01", ")", "ptm( ", 1);
        eachByte("()", " ", "ptm(", 0);
    }

    private static void eachByte(String ahead, String completes, String leaves, int done) {
        for (int c = 0; c < 128; c++) {
            DUE.about("26: FAULT, byte " + c + " behind '" + ahead + "'");
            Works x = new Works();
            for (int i = 0; i < ahead.length(); i++) {
                x.type(ahead.charAt(i));
            }
            x.type(c);
            int want = completes.indexOf(c) >= 0 ? done : -10 - ahead.length() - (leaves.indexOf(c) >= 0 ? 1 : 0);
            DUE.is("does()", x.does(), want);
        }
    }

    private static void faultsTooEarly() {
        SAYS.edge("26: FAULT: the TEXT's length, if it ends too early (an empty one, too)", """
            doing '' = -10; doing 'p' = -11; doing 'p ' = -12; doing 'p0' = -12; doing 'p0  ' = -14; doing 't' = -11; doing 't   ' = -14
            doing 'm' = -11; doing 'm0' = -12; doing 'm01' = -13; doing 'm 0 1 ' = -16
            doing '(' = -11; doing '((((' = -14; doing '()(' = -13; doing '(p01' = -14; doing '((p01)' = -16; doing '(p01 ' = -15
            told 4 = 0; works 8 = 0; told 0 = 0; told 1 = 0; told 2 = 0
            """);
        SAYS.edge("26: FAULT: blanks tell no ORDERS", "doing ' ' = -11; doing '   ' = -13; doing '" + FULL_OF_BLANKS + "' = -130");
    }

    private static void faultsOfFigures() {
        SAYS.edge("26: FAULT: numbers are one figure", """
            doing 'p001' = -13; doing 'p0 12' = -14; doing 't00' = -12; doing 't0 0' = -13; doing 'm0100' = -14; doing '0' = -10; doing 'p-1 1' = -11
            doing 'pp' = -11; doing 'p0p' = -12; doing 'm01p' = -13; doing 'p(' = -11; doing 'p)' = -11; doing '(p)' = -12; doing '(p0)' = -13
            """);
        SAYS.edge("26: FAULT: the first byte that can not stand there, of several", """
            doing 'xx' = -10; doing 'p01x)' = -13; doing ')p01' = -10; doing ')(' = -10; doing 'p01)' = -13; doing '())' = -12; doing '(p01))' = -15
            doing 'P01' = -10; doing 't0,t1' = -12
            """);
    }

    private static void faultsDeep() {
        SAYS.edge("26: within one another 4 deep at most: a ( within 4 others", """
            doing '(((())))' = 0; master = 5 0 5; doing '((((()))))' = -14; doing ' ( ( ( ( ( ' = -19; doing '(((()(()))))' = -16; master = 5 0 5
            doing '(((()())))' = 0; master = 11 0 5; doing '(((())))((((' = -22; doing '(((())))(((()))))' = -26
            """);
        SAYS.edge("26: 4 deep is how many are open, not how many were", """
            doing '()()()()()()' = 0; master = 7 0 2; doing '((())(()))((()))' = 0; master = 16 0 4; doing '((((p01))))((((p02))))' = 2; items 0 = 1 2
            """);
    }

    private static void faultsFarBehind() {
        SAYS.edge("26: if there is a FAULT, nothing is done, be it the last byte", """
            asks 0 1 1 0 = 0; gate 1 = 2 2 1; doing 'p01p02(t0)p11x' = -23; doing 'p01t' = -14; items 0 =; master = 0 0 0; gate 1 = 2 2 1; told 4 = 1
            """);
        SAYS.edge("26: FAULT at the last of 120, and behind it", "doing '" + " ".repeat(119) + "x' = -129; doing '" + " ".repeat(119) + "t' = -130;"
            + "doing '" + "x" + " ".repeat(119) + "' = -10");
        SAYS.edge("26: no FAULT in 120", "doing '" + " ".repeat(117) + "p01' = 1; items 0 = 1");
    }

    private static void blanksAnywhere() {
        SAYS.edge("26: blanks (32) may stand anywhere", """
            doing '  p  0   7  ' = 1; items 0 = 7; doing ' m 0  1 1 t 1 ' = 2; items 0 =; items 1 =; doing ' ( ( ) ) ' = 0; doing '( p 0 1 )' = 1
            doing 'p02t0t0' = 3; doing 't 0' = -1000
            """);
    }

    private static void ordersDone() {
        SAYS.edge("26: p b k, KINDS 0 .. 9", "doing 'p00p09' = 2; items 0 = 0 9; gate 0 = 2 0 1; master = 1 0 1; buffer 0 2 = 2; buffer 0 4 = 2");
        SAYS.edge("26: t b", "puts 2 5 = 1; doing 't2' = 1; items 2 =; buffer 2 3 = 1; gate 2 = 2 0 1");
        SAYS.edge("26: m a b n, n 0: both GATES are entered, nothing is TAKEN or PUT", """
            doing 'm010' = 1; gate 0 = 1 0 1; gate 1 = 1 0 1; doing 'm210' = 1; gate 2 = 1 0 1; gate 1 = 2 0 1; master = 2 0 1
            keeps 0 0 = 1; doing 'm010' = 1; gate 0 = 3 0 1
            """);
        SAYS.edge("26: m a b n, as many as there are, n 9 at most; it is one ORDER", """
            rooms 0 6 = 2; rooms 1 6 = 2; doing 'p01p02p03p04p05p06' = 6; doing 'm016' = 1; items 1 = 1 2 3 4 5 6; items 0 =
            doing 'm109' = -1000; items 1 = 1 2 3 4 5 6; items 0 =; buffer 0 2 = 12; buffer 1 3 = 6; buffer 0 4 = 6
            """);
        SAYS.edge("26: ORDERS one by one; THE TEXT stays", "doing 'p01p02t0' = 3; items 0 = 2; told 3 = 8; does = -1001; items 0 = 2; told 3 = 8");
    }

    private static void ordersBlock() {
        SAYS.edge("26: an ORDER that WOULD BLOCK: p to a full one, t from an empty one", """
            doing 'p01p02p03' = -1002; items 0 =; gate 0 = 3 1 1; master = 1 1 1; buffer 0 2 = 2; buffer 0 4 = 2
            doing 't1' = -1000; gate 1 = 1 1 1; master = 2 2 1
            """);
        SAYS.edge("26: a MOVE that ends early, too: a TAKE WOULD BLOCK", """
            doing 'p01m012' = -1001; items 0 =; items 1 =; gate 0 = 4 2 2; gate 1 = 2 1 2; master = 1 1 1
            buffer 0 2 = 1; buffer 0 3 = 1; buffer 1 2 = 1; buffer 1 4 = 1
            """);
        SAYS.edge("26: a MOVE that ends early, too: a PUT WOULD BLOCK", """
            rooms 1 1 = 2; doing '(p01p02m012)p09' = 1; items 0 = 9; items 1 =; gate 0 = 6 1 2; gate 1 = 3 2 2; master = 2 1 2
            buffer 0 3 = 2; buffer 1 2 = 1
            """);
        SAYS.edge("26: a MOVE that just does not end early", "doing 'p01p02m012' = 3; items 1 = 1 2; rooms 2 1 = 2; doing 'm121' = 1; items 2 = 1; doing 'm121' = -1000; items 1 = 2");
    }

    private static void ordersNotThere() {
        SAYS.edge("26: whose BUFFER is not there, or a is b: no GATE of a BUFFER being entered", """
            doing 'p31' = -1000; doing 't3' = -1000; doing 'm031' = -1000; doing 'm301' = -1000; doing 'm000' = -1000; doing 'm111' = -1000
            doing 'm030' = -1000; doing 'm300' = -1000; doing 'p99' = -1000; doing 't9' = -1000; doing 'm999' = -1000; doing 'm339' = -1000
            works 8 = 12; master = 12 12 1; doing 'p21' = 1; gate 2 = 1 0 1
            """);
        SAYS.edge("26: the most works have BUFFER 5, not 6", """
            begins 6 = 3; doing 'p51m501t0' = 3; doing 'p61' = -1000; doing 't6' = -1000; doing 'm560' = -1000; doing 'm650' = -1000; doing 'm540' = 1
            """);
        SAYS.edge("26: the least works have BUFFER 0, not 1", """
            begins 1 = 3; doing 'p01t0' = 2; doing 'p11' = -1000; doing 't1' = -1000; doing 'm010' = -1000; doing 'm000' = -1000
            """);
    }

    private static void ordersKept() {
        SAYS.edge("26: THE TEXT is nobody's: KEPT by WORKER 0", """
            puts 0 1 = 1; keeps 0 0 = 1; doing 'p02' = -1000; doing 't0' = -1000; doing 'm011' = -1000; doing 'p12m101' = -1001
            items 0 = 1; items 1 =; doing '(t0)p12' = 1; lets 0 0 = 0; doing 't0' = 1
            """);
    }

    private static void groupsMaster() {
        SAYS.edge("26: a GROUP, and all of THE TEXT, enter the MASTER GATE, and leave it", """
            doing 'p01' = 1; master = 1 0 1; doing '()' = 0; master = 3 0 2; doing '()()' = 0; master = 6 0 2; doing '(())' = 0; master = 9 0 3
            doing 't0' = 1; master = 10 0 3
            """);
        SAYS.edge("26: thrown out of the GROUP, not of those around it", """
            doing '(((t9)))' = 0; master = 4 1 4; doing '((t9)t9)' = 0; master = 7 3 4; doing '((t9)t9)t9' = -1002; master = 10 6 4
            doing '(((t9)t9)t9)t9' = -1003; master = 14 10 4
            """);
    }

    private static void groupsUndone() {
        SAYS.edge("26: all ITEMS of all BUFFERS are as they were when the GROUP was entered, counts stay", """
            begins 6 = 3; doing 'p01p12p23(t0t1t2p31p42p53t0)p04' = 4; items 0 = 1 4; items 1 = 2; items 2 = 3; items 3 =; items 4 =; items 5 =
            buffer 0 3 = 1; buffer 1 3 = 1; buffer 3 2 = 1; buffer 5 4 = 1; gate 0 = 4 1 1; gate 3 = 1 0 1; works 7 = 4
            """);
        SAYS.edge("26: as they were, though they be more than ROOM", """
            rooms 0 6 = 2; doing 'p01p02p03p04p05p06' = 6; rooms 0 1 = 6; doing '(t0t0t0t0t0t0t0)' = 0; items 0 = 1 2 3 4 5 6
            doing '(t0m012t1t1t1)t0' = 1; items 0 = 2 3 4 5 6; items 1 =
            """);
        SAYS.edge("26: it is passed over: what stands behind the ORDER in it is not done", """
            doing '(t9p01(p02)p03)p04' = 1; items 0 = 4; master = 2 1 2; doing '(t9()(()))(p05)' = 1; items 0 = 4 5
            """);
        SAYS.edge("26: it is passed over: blanks, GROUPS in it, and goes on behind its own )", """
            doing '( ( t9 ( ) ( ( ) ) ) p01 ) p12' = 2; items 0 = 1; items 1 = 2; master = 3 1 3
            """);
    }

    private static void groupsWithin() {
        SAYS.edge("26: done and not undone (by a GROUP around)", """
            doing '((p01)(p02)t9)p03' = 1; items 0 = 3; master = 4 1 3; doing 't0' = 1
            doing '(p01(p12 t9)p23)' = 2; items 0 = 1; items 1 =; items 2 = 3; doing 't0t2' = 2
            doing '(p01(p12(p23(p01 t9))))' = 3; items 0 = 1; items 1 = 2; items 2 = 3
            """);
        SAYS.edge("26: as when that GROUP was entered, not one around it", """
            doing 'p01(t0(p02p03p04))' = 2; items 0 =; doing 'p01(p02(t0t0t0)t0)' = 3; items 0 = 2
            """);
        SAYS.edge("26: a GROUP is done, one behind it undone, and the other way round", """
            doing '(p01)(p02t9)' = 1; items 0 = 1; doing '(p02t9)(p03)' = 1; items 0 = 1 3; doing '(t0t0)(t0)' = 2; items 0 =
            """);
    }

    private static void textUndone() {
        SAYS.edge("26: of THE TEXT itself: likewise, and it ends", """
            puts 0 7 = 1; doing 'p01(p12)t2p13(p14)' = -1002; items 0 = 7; items 1 =; master = 2 1 2; buffer 1 2 = 1; buffer 0 4 = 2
            """);
        SAYS.edge("26: all BUFFERS of the most works", """
            begins 6 = 3; doing 'p00p10p20p30p40p50t9' = -1006; works 7 = 0; buffer 5 2 = 1; buffer 5 4 = 1
            doing 'p01p11p21p31p41p51' = 6; doing 't0t1t2t3t4t5t9' = -1006; works 7 = 6; items 5 = 1
            """);
    }

    private static void textCounts() {
        SAYS.edge("26: -1000 less how many p, t, m were come to (undone ones, too) ahead of that which ended all", """
            doing 't9' = -1000; doing 'p01t9' = -1001; doing '(t9)t9' = -1001; doing '(t9p01p01)t9' = -1001; doing '(p01(p02)t9(p03))t9' = -1003
            doing '(p01)(p02)t9' = -1002; doing '()()t9' = -1000; doing 'm010t9' = -1001; doing '(((t9)t9)t9)t9p01' = -1003
            doing '((p01)t9)(p01)t9(t9)' = -1003
            """);
        SAYS.edge("26: how many p, t, m were done and not undone: 0, if none", """
            doing '(t9)' = 0; doing '(p01t9)' = 0; doing '(m000)(m990)' = 0; doing '((((t9))))' = 0; doing 'm010m120m200' = 3
            """);
    }

    private static void textFull() {
        SAYS.edge("26: 120 bytes of ORDERS: 30 MOVES", "doing '" + "m010".repeat(30) + "' = 30; gate 0 = 30 0 1; master = 1 0 1");
        SAYS.edge("26: 120 bytes of GROUPS of none", "doing '" + "()".repeat(60) + "' = 0; master = 61 0 2; does = 0; master = 122 0 2");
        SAYS.edge("26: 120 bytes of GROUPS undone", "doing '" + "(t9)".repeat(30) + "' = 0; master = 31 30 2");
        SAYS.edge("26: 120 bytes of TAKES that are undone", "doing '" + "(t9)".repeat(29) + "t9t9' = -1029; master = 30 30 2");
        SAYS.edge("26: 120 bytes, p and t by turns", "doing '" + "p01t0".repeat(24) + "' = 48; gate 0 = 48 0 1; buffer 0 4 = 1");
    }

    private static void doesServes() {
        SAYS.edge("26: then SERVING, behind all of THE TEXT", """
            rooms 0 1 = 2; asks 1 0 1 0 = 0; doing 'p04t0p05' = 3; worker 1 4 = 5; waiting =; items 0 =
            asks 1 0 1 0 = 0; doing '(p04)(p05)' = 1; worker 1 4 = 4; items 0 =
            """);
        SAYS.edge("26: then SERVING, whether it ended early or not; not behind a FAULT", """
            asks 1 0 1 0 = 0; gate 0 = 2 2 1; doing 't9' = -1000; gate 0 = 3 3 1; doing '()' = 0; gate 0 = 4 4 1; doing 't9t' = -13; gate 0 = 4 4 1
            doing 'p05t9' = -1001; waiting = 1; items 0 =
            """);
    }

    private static void doesLeavesState() {
        SAYS.edge("26: S, if it ended early, too; no S with a FAULT", """
            doing 'p01' = 1; told 4 = 1; doing 't9' = -1000; told 4 = 2; doing 't' = -11; told 4 = 2; doing '' = -10; told 4 = 2
            back = 1; master = 1 0 1; items 0 = 1; back = 0; master = 0 0 0; items 0 =; gate 0 = 0 0 0
            """);
    }

    private static void backHowMany() {
        SAYS.edge("27: how many can be yet; NO: none", """
            back = NO; puts 0 1 = 1; told 4 = 1; back = 0; items 0 =; told 4 = 0; back = NO; told 1 = 2
            """);
        SAYS.edge("27: 6 at most", """
            rooms 0 6 = 2; puts 0 1 = 1; puts 0 2 = 2; puts 0 3 = 3; puts 0 4 = 4; told 4 = 5; puts 0 5 = 5; told 4 = 6
            back = 5; items 0 = 1 2 3 4; back = 4; back = 3; back = 2; back = 1; items 0 =; buffer 0 1 = 6; back = 0; buffer 0 1 = 2; back = NO
            """);
        SAYS.edge("27: older ones lost: of seven the first", """
            rooms 0 6 = 2; puts 0 1 = 1; puts 0 2 = 2; puts 0 3 = 3; puts 0 4 = 4; puts 0 5 = 5; puts 0 6 = 6; told 4 = 6
            back = 5; items 0 = 1 2 3 4 5; back = 4; items 0 = 1 2 3 4; back = 3; back = 2; back = 1; back = 0; items 0 =; buffer 0 1 = 6; back = NO
            """);
    }

    private static void backWrapsAround() {
        SAYS.edge("27: back, on, and back again, more than six in all", """
            rooms 0 6 = 2; puts 0 1 = 1; puts 0 2 = 2; puts 0 3 = 3; back = 3; back = 2; items 0 = 1
            puts 0 4 = 2; puts 0 5 = 3; takes 0 = 1; puts 0 6 = 3; puts 0 7 = 4; puts 0 8 = 5; told 4 = 6
            back = 5; items 0 = 4 5 6 7; back = 4; items 0 = 4 5 6; back = 3; items 0 = 4 5; back = 2; items 0 = 1 4 5; back = 1; items 0 = 1 4
            puts 1 9 = 1; told 4 = 2; back = 1; back = 0; items 0 = 1; items 1 =; back = NO
            """);
        SAYS.edge("27: what was gone back from is lost", "puts 0 1 = 1; puts 0 2 = 2; back = 1; puts 0 3 = 2; back = 1; items 0 = 1; back = 0; items 0 =");
    }

    private static void backWhichCalls() {
        SAYS.edge("27: each call told S leaves one, though it change little", """
            begins 3 = 3; told 4 = 1; rooms 0 2 = 2; told 4 = 2; station 0 NONE 1 1 0 = 0; told 4 = 3; guards 0 NONE = NONE; told 4 = 4
            ticks 1 = 0; told 4 = 5; puts 0 1 = 1; told 4 = 6
            """);
        SAYS.edge("27: each call told S leaves one: takes, moves, asks, cancels, keeps, lets", """
            takes 0 = BLOCK; told 4 = 1; moves 0 1 1 1 = -100; told 4 = 2; asks 0 0 1 0 = 0; told 4 = 3; cancels 0 = 0; told 4 = 4
            keeps 0 0 = 1; told 4 = 5; lets 0 0 = 0; told 4 = 6; back = 5; keeper 0 0 = 0; back = 4; keeper 0 0 = NONE; back = 3; waiting = 0; back = 2; waiting =
            """);
        SAYS.edge("27: each call told S leaves one: quits, does; no other call", """
            keeps 0 0 = 1; keeps 1 0 = BLOCK; quits 1 = 0; told 4 = 3; types 't9'; clear = 2; type 40 = 1; type 41 = 2; told 4 = 3; does = 0; told 4 = 4
            keeper 0 0 = 0; queue 0 0 = NONE; stuck = 0; buffer 0 0 = 0; item 0 0 = NONE; worker 0 0 = 0; line 0 = NONE; works 0 = 3; told 4 = 4
            back = 3; told 4 = 3; master = 0 0 0
            """);
    }

    private static void backNotTheText() {
        SAYS.edge("27: not THE TEXT, how often refused", """
            types 'p01'; puts 0 7 = 1; clear = 3; types 't0()'; takes 9 = BAD; cancels 0 = NO; back = 0; told 3 = 4; told 0 = 1; told 1 = 1
            does = -1000; puts 0 1 = 1; does = 1; items 0 =
            """);
    }

    private static void backWorkers() {
        SAYS.edge("27: all that was: WISHES, GOT, KEEPERS, QUEUES", """
            puts 1 7 = 1; asks 5 1 1 0 = 1; keeps 0 2 = 1; keeps 1 2 = BLOCK; asks 0 0 1 9 = 0; mark; begins 1 = 3; differs; back = 5; same
            worker 5 4 = 7; keeper 2 0 = 0; keeper 2 1 = 1; queued 2 = 1; waiting = 0; worker 0 1 = 0; worker 0 2 = 1
            """);
        SAYS.edge("27: all that was: a WISH that was done WAITS again, GOT is what it was", """
            puts 0 1 = 1; asks 3 0 1 0 = 1; asks 3 0 1 0 = 0; asks 4 0 1 0 = 0; mark; puts 0 2 = 1; worker 3 4 = 2; waiting = 4; back = 4; same
            waiting = 3 4; worker 3 4 = 1; worker 3 0 = 1; worker 3 1 = 0; worker 3 2 = 1
            """);
    }

    private static void backStations() {
        SAYS.edge("27: all that was: what STATIONS are made of", """
            station 0 2 1 2 3 = 0; guards 0 2 = NONE; puts 0 4 = 1; puts 2 5 = 1; begins 2 = 3; station 1 NONE 0 9 9 = 0; back = 5; back = 4
            ticks 3 = 1; items 0 =; items 1 = 2; items 2 =; works 3 = 0; gate 2 = 6 1 2
            """);
        SAYS.edge("27: all that was: BUSY, LEFT and KIND", """
            station 0 NONE 1 3 1 = 0; puts 0 4 = 1; ticks 2 = 0; of 0 1 = 2; mark; ticks 5 = 1; differs; back = 3; same; of 0 0 = 1; of 0 1 = 2; of 0 2 = 5
            ticks 2 = 1; items 1 = 5
            """);
    }
}
