import java.util.ArrayList;
import java.util.List;

/**
 * Every call with every number that is not as told, each by itself, in works where much goes on: it answers what is due
 * and changes nothing but how often: a twin that was never called so must go on alike.
 */
public final class RefusalsTest {
    private static final int BAD = -2, NO = -3, FULL = -4;
    private static final int LOW = Integer.MIN_VALUE, HIGH = Integer.MAX_VALUE;

    private static final Due DUE = new Due();
    private static final List<String> TRIED = new ArrayList<>();

    public static void main(String[] args) {
        tooSmallAndTooLarge();
        notAsTold();
        notNow();
        noMore();
        allCallsTried();
        DUE.end();
    }

    /** Each number by itself: the one below the least and the one above the most, and those far away; others are as told. */
    private static void tooSmallAndTooLarge() {
        edges("begins", new int[] {2}, 0, 1, 6);
        edges("rooms", new int[] {0, 3}, 0, 0, 3);
        edges("rooms", new int[] {0, 3}, 1, 1, 6);
        int[] station = {0, 1, 2, 3, 4};
        edges("station", station, 0, 0, 3);
        edges("station", station, 1, -1, 3);
        edges("station", station, 2, 0, 3);
        edges("station", station, 3, 1, 9);
        edges("station", station, 4, 0, 9);
        edges("guards", new int[] {0, 1}, 0, 0, 1);
        edges("guards", new int[] {0, 1}, 1, -1, 3);
        edges("ticks", new int[] {1}, 0, 1, 30);
        edges("puts", new int[] {0, 3}, 0, 0, 3);
        edges("puts", new int[] {0, 3}, 1, 0, 9);
        edges("takes", new int[] {0}, 0, 0, 3);
        int[] moves = {0, 1, 2, 0};
        edges("moves", moves, 0, 0, 3);
        edges("moves", moves, 1, 0, 3);
        edges("moves", moves, 2, 1, 9);
        edges("moves", moves, 3, 0, 1);
        keepingAndAsking();
        telling();
    }

    private static void keepingAndAsking() {
        for (int wish = 0; wish < 2; wish++) {
            int[] asks = {0, 0, wish, 3};
            edges("asks", asks, 0, 0, 5);
            edges("asks", asks, 1, 0, 3);
            edges("asks", asks, 2, 0, 1);
            edges("asks", asks, 3, 0, 9);
        }
        edges("cancels", new int[] {2}, 0, 0, 5);
        edges("keeps", new int[] {4, 0}, 0, 0, 5);
        edges("keeps", new int[] {4, 0}, 1, 0, 3);
        edges("lets", new int[] {0, 3}, 0, 0, 5);
        edges("lets", new int[] {0, 3}, 1, 0, 3);
        edges("quits", new int[] {5}, 0, 0, 5);
    }

    private static void telling() {
        edges("keeper", new int[] {0, 0}, 0, 0, 3);
        edges("keeper", new int[] {0, 0}, 1, 0, 2);
        edges("queue", new int[] {3, 0}, 0, 0, 3);
        edges("queue", new int[] {3, 0}, 1, 0, HIGH);
        edges("buffer", new int[] {0, 0}, 0, 0, 3);
        edges("buffer", new int[] {0, 0}, 1, 0, 7);
        edges("item", new int[] {0, 0}, 0, 0, 3);
        edges("item", new int[] {0, 0}, 1, 0, HIGH);
        edges("of", new int[] {0, 0}, 0, 0, 1);
        edges("of", new int[] {0, 0}, 1, 0, 6);
        edges("worker", new int[] {0, 0}, 0, 0, 5);
        edges("worker", new int[] {0, 0}, 1, 0, 4);
        edges("line", new int[] {0}, 0, 0, HIGH);
        edges("works", new int[] {0}, 0, 0, 9);
        edges("type", new int[] {40}, 0, 0, 127);
        edges("told", new int[] {0}, 0, 0, 4);
    }

    private static void edges(String call, int[] right, int which, int least, int most) {
        List<Integer> wrong = new ArrayList<>(List.of(least - 1, least - 2, LOW));
        if (most < HIGH) {
            wrong.addAll(List.of(most + 1, most + 2, HIGH));
        }
        for (int v : wrong) {
            refused(BAD, call, with(right, which, v));
        }
        taken(call, with(right, which, least));
        taken(call, with(right, which, most));
    }

    private static int[] with(int[] right, int which, int v) {
        int[] numbers = right.clone();
        numbers[which] = v;
        return numbers;
    }

    private static void notAsTold() {
        for (int b = -1; b < 5; b++) {
            refused(BAD, "moves", b, b, 1, 0);
        }
        // none is KEEPER of BUFFER 0, but NONE is no WORKER
        refused(BAD, "lets", -1, 0);
        refused(BAD, "quits", -1);
    }

    private static void notNow() {
        refused(NO, "asks", 2, 0, 0, 3);
        refused(NO, "asks", 2, 3, 0, 6);
        refused(NO, "asks", 4, 0, 1, 0);
        for (int w : new int[] {0, 1, 3, 5}) {
            refused(NO, "cancels", w);
        }
        for (int b = 0; b < 4; b++) {
            refused(NO, "keeps", 1, b);
            refused(NO, "keeps", 3, b);
            refused(NO, "keeps", 5, b);
            refused(NO, "lets", 2, b);
            refused(NO, "lets", 5, b);
        }
        refused(NO, "lets", 0, 2);
        refused(NO, "lets", 1, 3);
        refused(NO, "lets", 0, 0);
        for (int w : new int[] {0, 2, 4}) {
            refused(NO, "quits", w);
        }
        // BAD is looked for ahead of NO
        refused(BAD, "asks", 2, 0, 0, 10);
        refused(BAD, "asks", 2, 4, 0, 3);
        refused(BAD, "asks", 2, 0, 2, 3);
        refused(BAD, "keeps", 1, 4);
        refused(BAD, "lets", 2, 4);
    }

    private static void noMore() {
        refusedOf(Twins.full(), Twins.full(), FULL, "station", 0, 1, 2, 3, 4);
        refusedOf(Twins.full(), Twins.full(), FULL, "station", 3, -1, 3, 9, 9);
        refusedOf(Twins.full(), Twins.full(), FULL, "type", 0);
        refusedOf(Twins.full(), Twins.full(), FULL, "type", 127);
        refusedOf(Twins.full(), Twins.full(), BAD, "type", 128);
        refusedOf(Twins.full(), Twins.full(), BAD, "type", -1);
        refusedOf(Twins.full(), Twins.full(), BAD, "station", 0, 1, 4, 3, 4);
        refusedOf(Twins.full(), Twins.full(), BAD, "station", 0, 1, 2, 3, 10);
        refusedOf(Twins.withStates(0), Twins.withStates(0), NO, "back");
        refusedOf(new Works(), new Works(), NO, "back");
    }

    private static void refused(int want, String call, int... numbers) {
        refusedOf(Twins.busy(), Twins.busy(), want, call, numbers);
    }

    private static void refusedOf(Works x, Works twin, int want, String call, int... numbers) {
        StringBuilder told = new StringBuilder(call);
        for (int v : numbers) {
            told.append(' ').append(v);
        }
        DUE.about(told.toString());
        TRIED.add(call);
        int[] times = {x.told(0), x.told(1), x.told(2)};
        times[want == BAD ? 0 : want == NO ? 1 : 2]++;
        DUE.is("it", x.call(call, numbers), want);
        for (int what = 0; what < 3; what++) {
            DUE.is("told(" + what + ") behind it", x.told(what), times[what]);
        }
        Twins.goOnAlike(DUE, x, twin);
    }

    /** A number that is just as told is not BAD, so that the edge lies where the document has it. */
    private static void taken(String call, int[] numbers) {
        StringBuilder told = new StringBuilder(call);
        for (int v : numbers) {
            told.append(' ').append(v);
        }
        DUE.about(told.toString());
        Works x = Twins.busy();
        int bad = x.told(0);
        boolean sameBuffer = call.equals("moves") && numbers[0] == numbers[1];
        x.call(call, numbers);
        DUE.is("it is as told", x.told(0) - bad, sameBuffer ? 1 : 0);
    }

    /** stuck, clear, does and digest refuse nothing; every other call was tried here. */
    private static void allCallsTried() {
        DUE.about("what was tried");
        String[] calls = {
            "begins", "rooms", "station", "guards", "ticks", "puts", "takes", "moves", "asks", "cancels", "keeps", "lets", "quits",
            "keeper", "queue", "buffer", "item", "of", "worker", "line", "works", "type", "back", "told",
        };
        for (String call : calls) {
            DUE.holds(call, TRIED.contains(call));
        }
    }
}
