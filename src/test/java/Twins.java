/** Works where much goes on, made twice alike: one is tried, the other one tells how it would have gone on. */
final class Twins {
    private static final String TEXT = "p01p12p13(p12(t3)t9)m021";

    private Twins() {
    }

    /** Four BUFFERS, two STATIONS at work, WORKERS 2 and 4 wait, 0 and 1 keep, 3, 1 and 5 are in a QUEUE; six STATES. */
    static Works busy() {
        Works x = new Works();
        x.begins(4);
        x.station(0, 1, 2, 3, 4);
        x.station(2, -1, 3, 2, 1);
        x.guards(0, 3);
        x.rooms(0, 5);
        x.puts(0, 1);
        x.puts(0, 2);
        x.puts(1, 7);
        x.asks(4, 0, 1, 0);
        x.puts(0, 5);
        x.ticks(2);
        x.keeps(0, 3);
        x.keeps(0, 3);
        x.keeps(1, 2);
        x.keeps(3, 3);
        x.keeps(1, 3);
        x.keeps(5, 3);
        x.asks(2, 3, 0, 6);
        x.asks(4, 1, 1, 0);
        for (int i = 0; i < TEXT.length(); i++) {
            x.type(TEXT.charAt(i));
        }
        return x;
    }

    /** The same with as many STATIONS and bytes as there can be. */
    static Works full() {
        Works x = busy();
        for (int s = 2; s < 6; s++) {
            x.station(s % 4, -1, 3, s, s);
        }
        while (x.told(3) < 120) {
            x.type(' ');
        }
        return x;
    }

    /** The same with fewer STATES: newer ones take the places of those that are to be lost, and are gone back from. */
    static Works withStates(int states) {
        Works x = busy();
        for (int i = states; i < 6; i++) {
            x.guards(0, 3);
        }
        for (int i = states; i < 6; i++) {
            x.back();
        }
        return x;
    }

    /** Also what can not be told shows: what STATIONS are made of, what is in THE TEXT, what older STATES hold. */
    static void goOnAlike(Due due, Works x, Works twin) {
        due.is("all that can be told", x.all(), twin.all());
        due.is("lets(1, 2) then", x.lets(1, 2), twin.lets(1, 2));
        due.is("does() then", x.does(), twin.does());
        due.is("all behind does()", x.all(), twin.all());
        due.is("ticks(30) then", x.ticks(30), twin.ticks(30));
        due.is("all behind ticks(30)", x.all(), twin.all());
        for (int i = 0; i < 6; i++) {
            due.is("back() then", x.back(), twin.back());
            due.is("all behind back()", x.all(), twin.all());
        }
    }
}
