import java.util.ArrayList;
import java.util.List;

/**
 * Cases written as texts. Each begins with a new object; its steps stand in rows, or behind one another with ';' between:
 * 'call numbers = answer', or without an answer that is due. What is due to be BAD, NO or FULL must also change nothing
 * but how often that was refused. Beside the calls of the class there are
 * items b = k k ..      the ITEMS of b, all of them
 * queued b = w w ..     the QUEUE of b, all of it
 * waiting = w w ..      THE LINE, all of it
 * gate b = e t d        ENTRIES, THROWN, DEEPEST of the GATE of b
 * master = e t d        the same of the MASTER GATE
 * types 'p0 1'          THE TEXT becomes that
 * doing 'p0 1' = answer the same, then does(); where a FAULT is due, nothing at all may change
 * same / differs        all that can be told is (is not) what it was at the last 'mark'
 * digest = v v ..       the digest of these numbers
 */
final class Script {
    static final int NONE = -1, BAD = -2, NO = -3, FULL = -4, BLOCK = -5;
    private static final int LEAST_FAULT = -10, MOST_FAULT = -130;
    private static final String[] NAMES = {"NONE", "BAD", "NO", "FULL", "BLOCK", "LOW", "HIGH"};
    private static final int[] VALUES = {NONE, BAD, NO, FULL, BLOCK, Integer.MIN_VALUE, Integer.MAX_VALUE};

    private final Due due;
    private Works x;
    private long marked;

    Script(Due due) {
        this.due = due;
    }

    /** The sentence is one of the document, or what follows from it. */
    void edge(String sentence, String steps) {
        due.about(sentence);
        x = new Works();
        for (String step : steps.split("[;\n]")) {
            if (!step.isBlank()) {
                step(step.strip());
            }
        }
    }

    private void step(String step) {
        if (step.startsWith("types ") || step.startsWith("doing ")) {
            textStep(step);
            return;
        }
        String[] sides = (step + " ").split("=");
        List<String> words = words(sides[0]);
        String name = words.remove(0);
        int[] numbers = numbers(words);
        int[] want = sides.length > 1 ? numbers(words(sides[1])) : null;
        switch (name) {
            case "items": row(step, x.buffer(numbers[0], 0), want, "item", numbers[0]); break;
            case "queued": row(step, x.keeper(numbers[0], 2), want, "queue", numbers[0]); break;
            case "waiting": row(step, x.works(9), want, "line"); break;
            case "gate": three(step, want, "buffer", numbers[0], 5); break;
            case "master": three(step, want, "works", NONE, 4); break;
            case "mark": marked = x.all(); break;
            case "digest": due.is(step, x.digest(), digestOf(want)); break;
            case "same": due.holds(step, x.all() == marked); break;
            case "differs": due.holds(step, x.all() != marked); break;
            default: call(step, name, numbers, want); break;
        }
    }

    private void textStep(String step) {
        int open = step.indexOf('\'');
        int close = step.lastIndexOf('\'');
        String text = step.substring(open + 1, close);
        x.clear();
        for (int i = 0; i < text.length(); i++) {
            due.is(step + ", its byte " + i, x.type(text.charAt(i)), i + 1);
        }
        if (step.startsWith("doing ")) {
            doing(step, numbers(words(step.substring(close + 1).replace("=", " "))));
        }
    }

    private void doing(String step, int[] want) {
        boolean faulty = want[0] <= LEAST_FAULT && want[0] >= MOST_FAULT;
        long ahead = faulty ? x.digest() : 0;
        call(step, "does", new int[0], want);
        if (faulty) {
            due.holds(step + ": a FAULT changes nothing at all", x.digest() == ahead);
        }
    }

    private void call(String step, String name, int[] numbers, int[] want) {
        if (want == null) {
            x.call(name, numbers);
        } else if (want[0] == BAD || want[0] == NO || want[0] == FULL) {
            refused(step, name, numbers, want[0]);
        } else {
            due.is(step, x.call(name, numbers), want[0]);
        }
    }

    private void refused(String step, String name, int[] numbers, int want) {
        int[] times = {x.told(0), x.told(1), x.told(2)};
        long all = x.all();
        due.is(step, x.call(name, numbers), want);
        times[want == BAD ? 0 : want == NO ? 1 : 2]++;
        for (int what = 0; what < 3; what++) {
            due.is("told(" + what + ") behind " + step, x.told(what), times[what]);
        }
        due.holds(step + " changes nothing but how often", x.all() == all);
    }

    private void row(String step, int size, int[] want, String call, int... of) {
        due.is(step + ", how many", size, want.length);
        for (int i = 0; i <= want.length; i++) {
            int told = of.length == 0 ? x.call(call, i) : x.call(call, of[0], i);
            due.is(step + ", the one at " + i, told, i < want.length ? want[i] : NONE);
        }
    }

    private void three(String step, int[] want, String call, int of, int from) {
        String[] names = {"ENTRIES", "THROWN", "DEEPEST"};
        for (int i = 0; i < 3; i++) {
            int told = of == NONE ? x.call(call, from + i) : x.call(call, of, from + i);
            due.is(step + ", " + names[i], told, want[i]);
        }
    }

    private static long digestOf(int[] numbers) {
        long h = 1932;
        for (int v : numbers) {
            h = 31 * h + v;
        }
        return h;
    }

    private static List<String> words(String side) {
        List<String> words = new ArrayList<>();
        for (String word : side.split("\\s+")) {
            if (!word.isEmpty()) {
                words.add(word);
            }
        }
        return words;
    }

    private static int[] numbers(List<String> words) {
        int[] numbers = new int[words.size()];
        for (int i = 0; i < numbers.length; i++) {
            numbers[i] = number(words.get(i));
        }
        return numbers;
    }

    private static int number(String word) {
        for (int i = 0; i < NAMES.length; i++) {
            if (NAMES[i].equals(word)) {
                return VALUES[i];
            }
        }
        return word.startsWith("0b") ? Integer.parseInt(word.substring(2), 2) : Integer.parseInt(word);
    }
}
