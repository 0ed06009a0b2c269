import java.util.LinkedHashMap;
import java.util.Map;
import java.util.TreeSet;

/**
 * Every call once or more in works where much goes on: all that it changes is listed, whatever is not listed must be as
 * it was, as a twin that was not called tells. A row of a list is 'what is told +n', '-n' or '= v'.
 */
public final class ChangesTest {
    private static final int NONE = -1, BLOCK = -5;
    private static final int MOST_ITEMS = 6, MOST_QUEUED = 5, WORKERS = 6;
    /** SERVING when nothing can be done: WORKER 2 tries to PUT to 3, which is KEPT, then 4 to TAKE from 1, which is empty. */
    private static final String NONE_SERVED = "works 8 +2; buffer 3 5 +1; buffer 3 6 +1; buffer 1 5 +1; buffer 1 6 +1;";
    /** SERVING when an ITEM has come to 1: 2 can not, 4 can, 2 can not. */
    private static final String FOUR_SERVED = "works 8 +3; buffer 3 5 +2; buffer 3 6 +2; buffer 1 5 +1; buffer 1 3 +1; works 7 -1; buffer 1 0 -1;"
        + "works 9 -1; line 1 = -1; worker 4 0 = 0; worker 4 1 = -1; worker 4 2 = -1;";

    private static final Due DUE = new Due();

    public static void main(String[] args) {
        works();
        ticks();
        putsAndTakes();
        moves();
        asks();
        cancels();
        keeping();
        texts();
        textWithFault();
        goingBack();
        tellingChangesNothing();
        DUE.end();
    }

    private static void works() {
        changes("rooms 3 5", 2, "buffer 3 1 = 5;" + NONE_SERVED);
        changes("rooms 0 1", 5, "buffer 0 1 = 1;" + NONE_SERVED);
        changes("rooms 2 1", 1, NONE_SERVED);
        changes("station 1 -1 0 9 9", 2, "works 1 +1; of 2 0 = 0; of 2 1 = 0; of 2 2 = -1; of 2 3 = 0; of 2 4 = 0; of 2 5 = 0; of 2 6 = -1");
        changes("guards 0 -1", 3, "of 0 6 = -1");
        changes("guards 1 0", NONE, "of 1 6 = 0");
    }

    /** STATION 0 is guarded by 3 and has LEFT 3, then can not PUT to 2; 1 can not PUT to 3: both are KEPT. */
    private static void ticks() {
        String tick = "works 2 +1; works 3 +1; works 8 +2; buffer 3 5 +2; buffer 3 6 +1; of 1 4 +1; of 0 1 -1;" + NONE_SERVED;
        changes("ticks 1", 0, tick);
        changes("ticks 2", 0, tick + tick);
        changes("ticks 3", 0, tick + tick + tick + "of 0 0 = 2; of 0 4 +1; works 8 +1; buffer 2 5 +1; buffer 2 6 +1");
    }

    private static void putsAndTakes() {
        changes("puts 0 4", 3, "works 7 +1; works 8 +1; buffer 0 0 +1; buffer 0 2 +1; buffer 0 5 +1; item 0 2 = 4;" + NONE_SERVED);
        changes("puts 1 4", 1, "works 7 +1; works 8 +1; buffer 1 0 +1; buffer 1 2 +1; buffer 1 5 +1; worker 4 4 = 4;" + FOUR_SERVED);
        changes("puts 2 4", BLOCK, "works 8 +1; buffer 2 5 +1; buffer 2 6 +1;" + NONE_SERVED);
        changes("puts 3 4", BLOCK, "works 8 +1; buffer 3 5 +1; buffer 3 6 +1;" + NONE_SERVED);
        changes("takes 0", 3, "works 7 -1; works 8 +1; buffer 0 0 -1; buffer 0 3 +1; buffer 0 5 +1; item 0 0 = 6; item 0 1 = -1;" + NONE_SERVED);
        changes("takes 1", BLOCK, "works 8 +1; buffer 1 5 +1; buffer 1 6 +1;" + NONE_SERVED);
        changes("takes 2", BLOCK, "works 8 +1; buffer 2 5 +1; buffer 2 6 +1;" + NONE_SERVED);
    }

    private static void moves() {
        String one = "works 8 +4; buffer 0 7 = 2; buffer 1 7 = 2; buffer 0 0 -1; buffer 0 3 +1; buffer 0 5 +2; buffer 1 0 +1; buffer 1 2 +1; buffer 1 5 +2; item 0 0 = 6; item 0 1 = -1;";
        changes("moves 0 1 1 0", 1, one + "worker 4 4 = 3;" + FOUR_SERVED);
        changes("moves 0 1 1 1", 1, one + "worker 4 4 = 3;" + FOUR_SERVED);
        String two = "works 8 +7; buffer 0 7 = 2; buffer 1 7 = 2; buffer 0 3 +2; buffer 0 5 +4; buffer 0 6 +2; buffer 1 2 +2; buffer 1 5 +3; buffer 1 6 +1;";
        changes("moves 0 1 3 0", -102, two + "buffer 0 0 -2; item 0 0 = -1; item 0 1 = -1; buffer 1 0 +2; item 1 0 = 6; worker 4 4 = 3;" + FOUR_SERVED);
        changes("moves 0 1 9 1", -100, two + NONE_SERVED);
        String back = "works 8 +4; buffer 0 7 = 2; buffer 0 3 +1; buffer 0 5 +2; buffer 0 6 +1; buffer 3 5 +2; buffer 3 6 +2; buffer 3 7 = 2;";
        changes("moves 0 3 2 0", -100, back + NONE_SERVED);
        changes("moves 0 3 2 1", -100, back + NONE_SERVED);
        changes("moves 2 0 1 0", -100, "works 8 +3; buffer 2 5 +2; buffer 2 6 +2; buffer 0 5 +1; buffer 0 6 +1;" + NONE_SERVED);
    }

    private static void asks() {
        changes("asks 0 0 0 4", 1, "works 7 +1; works 8 +1; buffer 0 0 +1; buffer 0 2 +1; buffer 0 5 +1; item 0 2 = 4;" + NONE_SERVED);
        changes("asks 5 0 1 0", 1, "works 7 -1; works 8 +1; buffer 0 0 -1; buffer 0 3 +1; buffer 0 5 +1; item 0 0 = 6; item 0 1 = -1; worker 5 4 = 3;"
            + NONE_SERVED);
        changes("asks 0 3 1 0", 1, "works 7 -1; works 8 +1; buffer 3 0 -1; buffer 3 3 +1; buffer 3 5 +1; item 3 0 = -1; worker 0 4 = 3;" + NONE_SERVED);
        String triedTwice = "works 8 +2; buffer 2 5 +2; buffer 2 6 +2; works 9 +1;";
        changes("asks 3 2 1 7", 0, triedTwice + "line 2 = 3; worker 3 0 = 1; worker 3 1 = 2; worker 3 2 = 1;" + NONE_SERVED);
        changes("asks 0 2 0 7", 0, triedTwice + "line 2 = 0; worker 0 0 = 1; worker 0 1 = 2; worker 0 2 = 0; worker 0 3 = 7;" + NONE_SERVED);
        changes("asks 5 1 0 7", 1, "works 7 +1; works 8 +1; buffer 1 0 +1; buffer 1 2 +1; buffer 1 5 +1; worker 4 4 = 7;" + FOUR_SERVED);
    }

    private static void cancels() {
        changes("cancels 2", 1, "works 9 -1; line 0 = 4; line 1 = -1; worker 2 0 = 0; worker 2 1 = -1; worker 2 2 = -1; worker 2 3 = -1");
        changes("cancels 4", 1, "works 9 -1; line 1 = -1; worker 4 0 = 0; worker 4 1 = -1; worker 4 2 = -1");
    }

    private static void keeping() {
        changes("keeps 4 0", 1, "works 8 +1; buffer 0 5 +1; keeper 0 0 = 4; keeper 0 1 +1");
        changes("keeps 0 3", 3, "works 8 +1; buffer 3 5 +1; keeper 3 1 +1");
        changes("keeps 4 3", BLOCK, "works 8 +1; buffer 3 5 +1; keeper 3 2 +1; queue 3 3 = 4");
        changes("keeps 0 2", BLOCK, "works 8 +1; buffer 2 5 +1; keeper 2 2 +1; queue 2 0 = 0; stuck = 3");
        changes("lets 0 3", 1, "works 8 +1; buffer 3 5 +1; keeper 3 1 -1;" + NONE_SERVED);
        changes("lets 1 2", 0, "works 8 +1; buffer 2 5 +1; keeper 2 0 = -1; keeper 2 1 = 0;" + NONE_SERVED);
        changes("quits 3", 3, "keeper 3 2 -1; queue 3 0 = 1; queue 3 1 = 5; queue 3 2 = -1");
        changes("quits 5", 3, "keeper 3 2 -1; queue 3 2 = -1");
    }

    /** p01 p12 p13 are done; p12 is, the GROUP with t3 is undone, t9 undoes that around it; m011 is done. */
    private static void texts() {
        changes("type 41", 25, "told 3 +1");
        changes("clear", 24, "told 3 = 0");
        changes("does", 4, "works 4 +3; works 8 +3; works 5 +2; works 6 = 3;"
            + "works 8 +1; buffer 0 0 +1; buffer 0 2 +1; buffer 0 5 +1; works 7 +1;"
            + "works 8 +2; buffer 1 0 +2; buffer 1 2 +2; buffer 1 5 +2; works 7 +2;"
            + "works 8 +1; buffer 1 2 +1; buffer 1 5 +1; buffer 1 4 = 3; works 8 +1; buffer 3 5 +1; buffer 3 6 +1;"
            + "works 8 +4; buffer 0 0 -1; buffer 0 3 +1; buffer 0 5 +2; buffer 1 0 +1; buffer 1 2 +1; buffer 1 5 +2; buffer 0 7 = 2; buffer 1 7 = 2;"
            + "item 0 0 = 6; item 0 1 = 1; item 1 0 = 3; item 1 1 = 3; worker 4 4 = 2;" + FOUR_SERVED);
    }

    private static void textWithFault() {
        DUE.about("does, with a FAULT");
        Works x = Twins.busy();
        Works twin = Twins.busy();
        x.type('x');
        twin.type('x');
        DUE.is("it", x.does(), -10 - 24);
        asTheTwin(x, twin);
    }

    /** The STATE ahead of asks 4 1 1 0: its try and the SERVING behind it are gone, too. */
    private static void goingBack() {
        changes("back", 5, "told 4 -1; works 9 -1; line 1 = -1; worker 4 0 = 0; worker 4 1 = -1; worker 4 2 = -1;"
            + "works 8 -3; buffer 1 5 -2; buffer 1 6 -2; buffer 3 5 -1; buffer 3 6 -1");
    }

    private static void tellingChangesNothing() {
        changesNothing("keeper 3 0", 0);
        changesNothing("keeper 3 2", 3);
        changesNothing("queue 3 1", 1);
        changesNothing("queue 3 6", NONE);
        changesNothing("stuck", 0);
        changesNothing("buffer 2 0", 3);
        changesNothing("item 2 1", 7);
        changesNothing("item 1 0", NONE);
        changesNothing("of 1 4", 3);
        changesNothing("worker 4 4", 8);
        changesNothing("line 1", 4);
        changesNothing("line 6", NONE);
        changesNothing("works 9", 2);
        changesNothing("told 2", 3);
        DUE.about("digest");
        Works x = Twins.busy();
        x.digest();
        asTheTwin(x, Twins.busy());
    }

    private static void changesNothing(String call, int answer) {
        DUE.about(call);
        Works x = Twins.busy();
        DUE.is("it", x.called(call), answer);
        asTheTwin(x, Twins.busy());
    }

    private static void asTheTwin(Works x, Works twin) {
        compare(told(x), told(twin));
        Twins.goOnAlike(DUE, x, twin);
    }

    private static void changes(String call, int answer, String list) {
        DUE.about(call);
        Works x = Twins.busy();
        DUE.is("it", x.called(call), answer);
        Map<String, Integer> want = told(Twins.busy());
        for (String row : list.split(";")) {
            if (!row.isBlank()) {
                change(want, row.strip());
            }
        }
        compare(told(x), want);
    }

    private static void change(Map<String, Integer> want, String row) {
        int equals = row.indexOf(" = ");
        if (equals >= 0) {
            want.put(row.substring(0, equals), Integer.parseInt(row.substring(equals + 3)));
        } else {
            int sign = row.lastIndexOf(' ');
            want.merge(row.substring(0, sign), Integer.parseInt(row.substring(sign + 1)), Integer::sum);
        }
    }

    private static void compare(Map<String, Integer> got, Map<String, Integer> want) {
        TreeSet<String> all = new TreeSet<>(got.keySet());
        all.addAll(want.keySet());
        for (String what : all) {
            DUE.holds(what + " can be told", got.containsKey(what) && want.containsKey(what));
            DUE.is(what + " behind it", got.getOrDefault(what, NONE), want.getOrDefault(what, NONE));
        }
    }

    /** All that can be told. */
    private static Map<String, Integer> told(Works x) {
        Map<String, Integer> all = new LinkedHashMap<>();
        tellRow(all, x, "told", 5);
        tellRow(all, x, "works", 10);
        tellRow(all, x, "line", WORKERS);
        for (int b = 0; b < x.works(0); b++) {
            tellRow(all, x, "buffer", 8, b);
            tellRow(all, x, "item", MOST_ITEMS, b);
            tellRow(all, x, "keeper", 3, b);
            tellRow(all, x, "queue", MOST_QUEUED, b);
        }
        for (int s = 0; s < x.works(1); s++) {
            tellRow(all, x, "of", 7, s);
        }
        for (int w = 0; w < WORKERS; w++) {
            tellRow(all, x, "worker", 5, w);
        }
        all.put("stuck", x.stuck());
        return all;
    }

    private static void tellRow(Map<String, Integer> all, Works x, String call, int howMany, int... of) {
        for (int i = 0; i < howMany; i++) {
            String what = of.length == 0 ? call + " " + i : call + " " + of[0] + " " + i;
            all.put(what, of.length == 0 ? x.call(call, i) : x.call(call, of[0], i));
        }
    }
}
