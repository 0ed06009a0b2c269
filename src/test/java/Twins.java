/** Works where much goes on, made twice alike: one is tried, the other one tells how it would have gone on. */
final class Twins {
    /** How often the twins were refused when they were made: BAD once, NO twice, FULL three times. */
    static final int REFUSED = 6;
    private static final String TEXT = "p01p12p13(p12(t3)t9)m011";

    private Twins() {
    }

    /**
     * Four BUFFERS, 2 with more ITEMS than ROOM; STATION 0 BUSY, 1 DONE and held; WORKERS 2 and 4 wait, 0 keeps 3, 1 keeps 2;
     * 3, 1 and 5 are in the QUEUE of 3; six STATES. Most of what is counted is other than 0, so that a count that is lost shows.
     */
    static Works busy() {
        Works x = new Works();
        refuseSome(x);
        x.begins(4);
        x.rooms(0, 5);
        x.rooms(1, 3);
        x.station(0, 1, 2, 3, 4);
        x.station(2, -1, 3, 2, 1);
        x.guards(0, 3);
        putAll(x, 0, 8, 1, 2, 5);
        putAll(x, 1, 7, 8);
        x.moves(2, 3, 1, 0);
        x.asks(4, 0, 1, 0);
        x.ticks(7);
        typeAll(x, "(t9)");
        x.does();
        x.clear();
        x.keeps(0, 3);
        x.ticks(3);
        putAll(x, 0, 3, 6);
        x.puts(1, 9);
        x.ticks(1);
        x.rooms(2, 4);
        putAll(x, 2, 6, 7, 0);
        x.rooms(2, 1);
        x.keeps(0, 3);
        x.keeps(1, 2);
        x.keeps(3, 3);
        x.keeps(1, 3);
        x.keeps(5, 3);
        x.asks(2, 3, 0, 6);
        x.asks(4, 1, 1, 0);
        typeAll(x, TEXT);
        return x;
    }

    private static void refuseSome(Works x) {
        for (int i = 0; i < 9; i++) {
            x.station(0, -1, 1, 1, 0);
        }
        x.takes(3);
        x.quits(0);
        x.cancels(0);
    }

    private static void putAll(Works x, int b, int... kinds) {
        for (int k : kinds) {
            x.puts(b, k);
        }
    }

    private static void typeAll(Works x, String text) {
        for (int i = 0; i < text.length(); i++) {
            x.type(text.charAt(i));
        }
    }

    /** The same with as many STATIONS and bytes as there can be. */
    static Works full() {
        Works x = busy();
        for (int s = 2; s < 6; s++) {
            x.station(s % 4, -1, 3, s, s);
        }
        while (x.told(3) < 120) {
            x.type(' ');
        }
        return x;
    }

    /** The same with fewer STATES: newer ones take the places of those that are to be lost, and are gone back from. */
    static Works withStates(int states) {
        Works x = busy();
        for (int i = states; i < 6; i++) {
            x.guards(0, 3);
        }
        for (int i = states; i < 6; i++) {
            x.back();
        }
        return x;
    }

    /** Also what can not be told shows: what STATIONS are made of, what is in THE TEXT, what older STATES hold. */
    static void goOnAlike(Due due, Works x, Works twin) {
        due.is("all that can be told", x.all(), twin.all());
        due.is("lets(1, 2) then", x.lets(1, 2), twin.lets(1, 2));
        due.is("does() then", x.does(), twin.does());
        due.is("all behind does()", x.all(), twin.all());
        due.is("ticks(30) then", x.ticks(30), twin.ticks(30));
        due.is("all behind ticks(30)", x.all(), twin.all());
        for (int i = 0; i < 6; i++) {
            due.is("back() then", x.back(), twin.back());
            due.is("all behind back()", x.all(), twin.all());
        }
    }
}
