import java.lang.management.ManagementFactory;
import java.lang.reflect.Constructor;
import java.lang.reflect.Field;
import java.lang.reflect.Method;
import java.lang.reflect.Modifier;
import java.nio.file.Files;
import java.nio.file.Path;
import java.util.Arrays;
import java.util.TreeSet;
import java.util.regex.Pattern;

/** What LANGUAGE.md and the room ask of the class: its face, words it may not use, and no object made by a call. */
public final class RulesTest {
    private static final String[] FACE = {
        "int begins(int)", "int rooms(int,int)", "int station(int,int,int,int,int)", "int guards(int,int)",
        "int ticks(int)", "int puts(int,int)", "int takes(int)", "int moves(int,int,int,int)",
        "int asks(int,int,int,int)", "int cancels(int)", "int keeps(int,int)", "int lets(int,int)", "int quits(int)",
        "int keeper(int,int)", "int queue(int,int)", "int stuck()", "int buffer(int,int)", "int item(int,int)",
        "int of(int,int)", "int worker(int,int)", "int line(int)", "int works(int)", "int type(int)", "int clear()",
        "int does()", "int back()", "int told(int)", "long digest()",
    };
    private static final String[] BANNED = {
        "\\bthrow\\b", "\\btry\\b", "\\bcatch\\b", "\\bsynchronized\\b", "\\bassert\\b", "->", "::", "\\bimport\\b",
        "\\bpackage\\b", "Exact\\b", "\\bhashCode\\b", "\\btoString\\b", "\\bSystem\\.(?!arraycopy)", "\\bThread\\b",
        "\\bstatic\\s*\\{", "\\bString\\b", "\\bObject\\b",
    };
    private static final Due DUE = new Due();

    public static void main(String[] args) throws Exception {
        face();
        sizes();
        words();
        room();
        DUE.end();
    }

    private static void face() {
        DUE.about("the face");
        Class<?> c = GatedWorks.class;
        DUE.holds("public and final", c.getModifiers() == (Modifier.PUBLIC | Modifier.FINAL));
        TreeSet<String> due = new TreeSet<>(Arrays.asList(FACE));
        TreeSet<String> names = new TreeSet<>();
        for (Method m : c.getDeclaredMethods()) {
            if (Modifier.isPublic(m.getModifiers())) {
                String told = m.toGenericString().replace("public ", "").replace("GatedWorks.", "");
                DUE.holds(told + " is of the face, once", due.remove(told));
                names.add(m.getName());
            }
        }
        DUE.is("methods missing " + due, due.size(), 0);
        for (Method m : c.getDeclaredMethods()) {
            if (!Modifier.isPublic(m.getModifiers())) {
                DUE.holds(m + " is private", Modifier.isPrivate(m.getModifiers()));
                DUE.holds(m + " bears no public name", !names.contains(m.getName()));
            }
        }
        TreeSet<String> constants = new TreeSet<>(Arrays.asList("NONE", "BAD", "NO", "FULL", "BLOCK"));
        for (Field f : c.getDeclaredFields()) {
            boolean open = constants.contains(f.getName());
            DUE.holds(f + " is as public as due", open ? Modifier.isPublic(f.getModifiers()) : Modifier.isPrivate(f.getModifiers()));
        }
        Constructor<?>[] all = c.getDeclaredConstructors();
        DUE.is("constructors", all.length, 1);
        DUE.holds("a public one without numbers", Modifier.isPublic(all[0].getModifiers()) && all[0].getParameterCount() == 0);
        DUE.holds("at most twelve classes", c.getDeclaredClasses().length < 12);
        for (Class<?> inside : c.getDeclaredClasses()) {
            DUE.holds(inside + " is private and static",
                Modifier.isPrivate(inside.getModifiers()) && Modifier.isStatic(inside.getModifiers()));
        }
    }

    private static void sizes() {
        DUE.about("sizes");
        sizesOf(GatedWorks.class);
        for (Class<?> inside : GatedWorks.class.getDeclaredClasses()) {
            sizesOf(inside);
        }
    }

    private static void sizesOf(Class<?> c) {
        int fields = 0;
        for (Field f : c.getDeclaredFields()) {
            boolean lasting = Modifier.isStatic(f.getModifiers());
            fields += lasting ? 0 : 1;
            DUE.holds(f + " is final, if static", !lasting || Modifier.isFinal(f.getModifiers()));
        }
        DUE.holds(c + " has at most twenty fields", fields <= 20);
        for (Method m : c.getDeclaredMethods()) {
            DUE.holds(m + " takes at most seven parameters", m.getParameterCount() <= 7);
        }
    }

    private static void words() throws Exception {
        DUE.about("words");
        String code = Files.readString(Path.of("src/main/java/GatedWorks.java"));
        code = code.replaceAll("(?s)/\\*.*?\\*/", " ").replaceAll("//[^\\n]*", " ");
        for (String word : BANNED) {
            DUE.holds("no " + word, !Pattern.compile(word).matcher(code).find());
        }
    }

    /** All calls of a run live in one room that is never emptied, so a call makes no object. */
    private static void room() {
        DUE.about("the room");
        com.sun.management.ThreadMXBean bean = (com.sun.management.ThreadMXBean) ManagementFactory.getThreadMXBean();
        long sum = 0;
        GatedWorks x = new GatedWorks();
        long[] made = new long[3];
        for (int i = 0; i < 3; i++) {
            long ahead = bean.getCurrentThreadAllocatedBytes();
            sum += manyCalls(x);
            made[i] = bean.getCurrentThreadAllocatedBytes() - ahead;
        }
        DUE.holds("calls were done", sum != 0);
        // the machine itself may make something now and then, the class nothing: the last round tells
        DUE.is("bytes made by many calls", Math.min(made[1], made[2]), 0);
    }

    private static long manyCalls(GatedWorks x) {
        long sum = x.begins(6);
        for (int i = 0; i < 100; i++) {
            int b = i % 6;
            int w = i % 7 % 6;
            sum += x.rooms(b, 1 + i % 5) + x.station(b, w, (b + 1) % 6, 1, i % 10) + x.guards(i % 3, b);
            sum += x.puts(b, 3) + x.puts(b, 4) + x.moves(b, (b + 1) % 6, 3, i % 2) + x.ticks(5);
            sum += x.asks(w, b, i % 2, 3) + x.keeps(w, b) + x.lets(w, b) + x.quits(w) + x.cancels(w) + x.stuck();
            sum += x.type("p0 1(m0 1 2)((t2))".charAt(i % 18)) + x.does() + x.clear() + x.back() + x.digest();
        }
        return sum;
    }
}
