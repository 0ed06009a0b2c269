import java.util.Random;

/** Long runs of chosen-by-seed calls: the class and the model answer alike, and have the same digest behind each. */
public final class ModelTest {
    private static final int RUNS = 3000;
    // an object may be called 512 times; the last step of a run may be a text with all its bytes
    private static final int CALLS = 512 - 100;
    private static final int[] WRONG = {Integer.MIN_VALUE, -7, -3, -2, -1, 6, 7, 10, 31, 128, Integer.MAX_VALUE};
    private static final String[] TEXTS = {
        "p0 1", "t0", "m0 1 1", "()", "( )", "p0 1(p0 2)t0", "(t1)p1 3", "((((p0 1))))", "(((((p0 1)))))",
        "p0", "m0 1", "(p0 1", "p0 1)", "x", "", "   ", "m0 0 1", "m0 1 0", "t9", "(t9)p0 4", "(m1 1 1)", "m0 9 1",
        "p0 1p0 2p0 3p0 4", "(p0 1(p1 2(p2 3(t0t1t2t2))))", "p1 5(p1 6)(p1 7(t2))m1 0 2", "p00t0", "p0 01",
        "(p0 1(t0 t0)p0 2)(p0 3 t1 (p0 1) p0 1) p0 4", "m0 1 9", "(m0 1 9)(m1 0 9)(m1 2 9)", "  p 0 7  ",
    };

    private static Random random;
    private static Works real;
    private static Model model;

    public static void main(String[] args) {
        Due due = new Due();
        for (int run = 0; run < RUNS && due.wrong() == 0; run++) {
            due.about("run " + run);
            random = new Random(run);
            real = new Works();
            model = new Model();
            due.is("digest of a new object", real.digest(), model.digest());
            int calls = 1;
            while (calls < CALLS && due.wrong() == 0) {
                calls += call(due, run % 3) + 1;
                due.is("digest behind call " + calls, real.digest(), model.digest());
            }
        }
        due.end();
    }

    private static int any(int lo, int hi) {
        if (random.nextInt(60) == 0) {
            return WRONG[random.nextInt(WRONG.length)];
        }
        return lo + random.nextInt(hi - lo + 1);
    }

    private static int buf() {
        return any(0, Math.max(0, model.works(0) - 1));
    }

    /** Mode 0: all alike; 1: mostly stations and workers; 2: mostly texts and keeping. */
    private static int call(Due due, int mode) {
        int which = random.nextInt(100);
        if (which < 4) {
            return typeText(due);
        }
        if (which < 30) {
            return tell(due);
        }
        if (mode == 1 && which < 60) {
            return stationsAndWorkers(due);
        }
        if (mode == 2 && which < 60) {
            return textsAndKeeping(due);
        }
        switch (random.nextInt(3)) {
            case 0: return stationsAndWorkers(due);
            case 1: return textsAndKeeping(due);
            default: return bufferCalls(due);
        }
    }

    private static int typeText(Due due) {
        if (random.nextInt(3) > 0) {
            due.is("clear()", real.clear(), model.clear());
        }
        String text = random.nextInt(3) == 0 ? anyText() : TEXTS[random.nextInt(TEXTS.length)];
        for (int i = 0; i < text.length(); i++) {
            due.is("type", real.type(text.charAt(i)), model.type(text.charAt(i)));
        }
        due.is("does() of " + text, real.does(), model.does());
        return 2 + text.length();
    }

    private static String anyText() {
        StringBuilder b = new StringBuilder();
        int length = random.nextInt(12);
        int open = 0;
        for (int i = 0; i < length; i++) {
            switch (random.nextInt(6)) {
                case 0: b.append("(".repeat(random.nextInt(2) + 1)); open++; break;
                case 1: b.append(open > 0 ? ")" : " "); open = Math.max(0, open - 1); break;
                case 2: b.append('t').append(random.nextInt(4)); break;
                case 3: b.append('m').append(random.nextInt(4)).append(random.nextInt(4)).append(random.nextInt(3)); break;
                default: b.append('p').append(random.nextInt(3)).append(' ').append(random.nextInt(10)); break;
            }
        }
        while (open > 0) {
            b.append(')');
            open--;
        }
        return b.toString();
    }

    private static int bufferCalls(Due due) {
        int a = buf();
        int b = buf();
        int k = any(0, 9);
        int u = any(0, 1);
        switch (random.nextInt(14)) {
            case 0:
                int v = any(1, 6);
                due.is("rooms", real.rooms(a, v), model.rooms(a, v)); return 1;
            case 1: case 2: case 3: case 4:
                due.is("puts", real.puts(a, k), model.puts(a, k)); return 1;
            case 5: case 6: case 7:
                due.is("takes", real.takes(a), model.takes(a)); return 1;
            case 8: case 9: case 10: case 11:
                int n = any(1, random.nextInt(3) == 0 ? 9 : 2);
                due.is("moves", real.moves(a, b, n, u), model.moves(a, b, n, u)); return 1;
            case 12:
                due.is("back", real.back(), model.back()); return 1;
            default:
                if (random.nextInt(8) > 0) {
                    return tell(due);
                }
                int m = any(1, 6);
                due.is("begins", real.begins(m), model.begins(m)); return 1;
        }
    }

    private static int stationsAndWorkers(Due due) {
        int a = buf();
        int b = random.nextInt(3) == 0 ? -1 : buf();
        int c = buf();
        int w = any(0, 5);
        int k = any(0, 9);
        switch (random.nextInt(10)) {
            case 0:
                int time = any(1, random.nextInt(2) == 0 ? 9 : 2);
                due.is("station", real.station(a, b, c, time, k), model.station(a, b, c, time, k)); return 1;
            case 1:
                int s = any(0, Math.max(0, model.works(1) - 1));
                due.is("guards", real.guards(s, b), model.guards(s, b)); return 1;
            case 2: case 3: case 4:
                int n = any(1, random.nextInt(4) == 0 ? 30 : 3);
                due.is("ticks", real.ticks(n), model.ticks(n)); return 1;
            case 5: case 6: case 7: case 8:
                int wish = any(0, 1);
                due.is("asks", real.asks(w, a, wish, k), model.asks(w, a, wish, k)); return 1;
            default:
                due.is("cancels", real.cancels(w), model.cancels(w)); return 1;
        }
    }

    private static int textsAndKeeping(Due due) {
        int a = buf();
        int w = any(0, 5);
        switch (random.nextInt(12)) {
            case 0: due.is("does", real.does(), model.does()); return 1;
            case 1:
                int c = any(0, 127);
                due.is("type", real.type(c), model.type(c)); return 1;
            case 2: case 3: case 4:
                due.is("keeps", real.keeps(w, a), model.keeps(w, a)); return 1;
            case 5: case 6: case 7: case 8:
                int who = random.nextInt(2) == 0 ? w : model.keeper(0, 0);
                int at = random.nextInt(2) == 0 ? a : 0;
                due.is("lets", real.lets(who, at), model.lets(who, at)); return 1;
            case 9: due.is("quits", real.quits(w), model.quits(w)); return 1;
            case 10: due.is("stuck", real.stuck(), model.stuck()); return 1;
            default: due.is("back", real.back(), model.back()); return 1;
        }
    }

    private static int tell(Due due) {
        int a = buf();
        int i = any(0, 9);
        switch (random.nextInt(9)) {
            case 0: due.is("keeper", real.keeper(a, i), model.keeper(a, i)); return 1;
            case 1: due.is("queue", real.queue(a, i), model.queue(a, i)); return 1;
            case 2: due.is("buffer", real.buffer(a, i), model.buffer(a, i)); return 1;
            case 3: due.is("item", real.item(a, i), model.item(a, i)); return 1;
            case 4: due.is("of", real.of(a, i), model.of(a, i)); return 1;
            case 5: due.is("worker", real.worker(a, i), model.worker(a, i)); return 1;
            case 6: due.is("line", real.line(i), model.line(i)); return 1;
            case 7: due.is("works", real.works(i), model.works(i)); return 1;
            default: due.is("told", real.told(i), model.told(i)); return 1;
        }
    }
}
