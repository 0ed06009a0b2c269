/**
 * Each call told S, and each pair of them, in works where much goes on: it leaves one STATE, and gone back, all is as it
 * was: a twin that was never called so must go on alike.
 */
public final class StatesTest {
    private static final String[] CALLS = {
        "begins 2", "begins 4", "rooms 3 1", "rooms 0 6", "station 1 -1 0 9 9", "guards 0 -1", "guards 1 2", "ticks 7", "puts 0 3",
        "puts 3 3", "puts 1 8", "takes 0", "takes 3", "moves 0 1 1 0", "moves 0 1 9 0", "moves 0 1 9 1", "asks 0 0 0 4", "asks 0 3 0 4",
        "asks 5 0 1 0", "asks 1 1 1 0", "cancels 2", "cancels 4", "keeps 4 0", "keeps 4 3", "keeps 0 3", "lets 0 3", "lets 1 2", "quits 1",
        "quits 5", "does",
    };
    private static final Due DUE = new Due();

    public static void main(String[] args) {
        for (String first : CALLS) {
            oneCall(first);
            for (String second : CALLS) {
                twoCalls(first, second);
            }
        }
        sixAtMost();
        DUE.end();
    }

    private static void oneCall(String call) {
        DUE.about(call + ", gone back");
        Works x = Twins.withStates(5);
        long was = x.all();
        x.called(call);
        DUE.is("it is not refused", x.told(0) + x.told(1) + x.told(2), Twins.REFUSED);
        DUE.holds("it changes something", x.all() != was);
        DUE.is("STATES", x.told(4), 6);
        DUE.is("back()", x.back(), 5);
        Twins.goOnAlike(DUE, x, Twins.withStates(5));
    }

    /** The second may be refused, as the first went ahead of it. */
    private static void twoCalls(String first, String second) {
        DUE.about(first + ", " + second + ", gone back");
        Works x = Twins.withStates(4);
        x.called(first);
        x.called(second);
        int refused = x.told(0) + x.told(1) + x.told(2) - Twins.REFUSED;
        DUE.is("STATES", x.told(4), 6 - refused);
        for (int i = refused; i < 2; i++) {
            x.back();
        }
        Twins.goOnAlike(DUE, x, Twins.withStates(4));
    }

    /** With six already, each call makes the oldest be lost, and no other one. */
    private static void sixAtMost() {
        for (String call : CALLS) {
            DUE.about(call + ", six STATES ahead of it");
            Works x = Twins.busy();
            Works twin = Twins.busy();
            x.called(call);
            DUE.is("STATES", x.told(4), 6);
            DUE.is("back()", x.back(), 5);
            for (int i = 4; i >= 0; i--) {
                DUE.is("back()", x.back(), i);
                DUE.is("back() of the twin", twin.back(), i + 1);
                DUE.holds("as the twin, but for STATES", x.works(8) == twin.works(8) && x.works(9) == twin.works(9)
                    && x.keeper(3, 2) == twin.keeper(3, 2) && x.keeper(3, 1) == twin.keeper(3, 1));
            }
            DUE.is("the oldest is lost", x.back(), -3);
        }
    }
}
