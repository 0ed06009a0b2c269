import java.lang.reflect.Method;

/** A GatedWorks that may be called 512 times: what it answers later is free, so no test may hang on it. */
final class Works {
    private static final int MOST_CALLS = 512;
    private final GatedWorks works = new GatedWorks();
    private int calls;

    private GatedWorks once() {
        calls++;
        if (calls > MOST_CALLS) {
            throw new IllegalStateException("a test calls one object more than 512 times");
        }
        return works;
    }

    int begins(int n) {
        return once().begins(n);
    }

    int rooms(int b, int v) {
        return once().rooms(b, v);
    }

    int station(int in0, int in1, int out, int time, int add) {
        return once().station(in0, in1, out, time, add);
    }

    int guards(int s, int b) {
        return once().guards(s, b);
    }

    int ticks(int n) {
        return once().ticks(n);
    }

    int puts(int b, int k) {
        return once().puts(b, k);
    }

    int takes(int b) {
        return once().takes(b);
    }

    int moves(int a, int b, int n, int undo) {
        return once().moves(a, b, n, undo);
    }

    int asks(int w, int b, int wish, int k) {
        return once().asks(w, b, wish, k);
    }

    int cancels(int w) {
        return once().cancels(w);
    }

    int keeps(int w, int b) {
        return once().keeps(w, b);
    }

    int lets(int w, int b) {
        return once().lets(w, b);
    }

    int quits(int w) {
        return once().quits(w);
    }

    int keeper(int b, int what) {
        return once().keeper(b, what);
    }

    int queue(int b, int i) {
        return once().queue(b, i);
    }

    int stuck() {
        return once().stuck();
    }

    int buffer(int b, int what) {
        return once().buffer(b, what);
    }

    int item(int b, int i) {
        return once().item(b, i);
    }

    int of(int s, int what) {
        return once().of(s, what);
    }

    int worker(int w, int what) {
        return once().worker(w, what);
    }

    int line(int i) {
        return once().line(i);
    }

    int works(int what) {
        return once().works(what);
    }

    int type(int c) {
        return once().type(c);
    }

    int clear() {
        return once().clear();
    }

    int does() {
        return once().does();
    }

    int back() {
        return once().back();
    }

    int told(int what) {
        return once().told(what);
    }

    long digest() {
        return once().digest();
    }

    /** The call of that name. */
    int call(String name, int... numbers) {
        Object[] given = new Object[numbers.length];
        for (int i = 0; i < given.length; i++) {
            given[i] = numbers[i];
        }
        try {
            return (Integer) methodOf(name).invoke(this, given);
        } catch (ReflectiveOperationException e) {
            throw new IllegalStateException(name, e);
        }
    }

    /** The call that is written so: its name and its numbers, with blanks between. */
    int called(String written) {
        String[] words = written.split(" ");
        int[] numbers = new int[words.length - 1];
        for (int i = 0; i < numbers.length; i++) {
            numbers[i] = Integer.parseInt(words[i + 1]);
        }
        return call(words[0], numbers);
    }

    private static Method methodOf(String name) {
        for (Method m : Works.class.getDeclaredMethods()) {
            if (m.getName().equals(name) && m.getReturnType() == int.class && !m.isVarArgs()) {
                return m;
            }
        }
        throw new IllegalStateException("no call " + name);
    }

    /** All that can be told but for how often refused, as one number: the digest without these three. */
    long all() {
        long h = digest();
        int behind = numbersBehindRefused();
        for (int what = 2; what >= 0; what--) {
            h -= told(what) * power(behind);
            behind++;
        }
        return h;
    }

    /** How many numbers the digest has behind told(2). */
    private int numbersBehindRefused() {
        int n = works(0);
        int numbers = 2 + 10 + n * (8 + 3) + works(7) + works(1) * 7 + 6 * 5 + works(9) + 1;
        for (int b = 0; b < n; b++) {
            numbers += keeper(b, 2);
        }
        return numbers;
    }

    private static long power(int times) {
        long product = 1;
        for (int i = 0; i < times; i++) {
            product *= 31;
        }
        return product;
    }
}
