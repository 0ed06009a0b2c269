import java.io.IOException;
import java.lang.reflect.Method;
import java.lang.reflect.Modifier;
import java.net.URI;
import java.net.URL;
import java.net.URLClassLoader;
import java.nio.file.Files;
import java.nio.file.Path;
import java.util.Comparator;
import java.util.List;
import java.util.regex.Matcher;
import java.util.regex.Pattern;
import java.util.stream.Stream;
import javax.tools.JavaCompiler;
import javax.tools.SimpleJavaFileObject;
import javax.tools.ToolProvider;

/** The Java of README.md is compiled as it stands there, and each call must answer what is written behind it. */
public final class ReadmeTest {
    private static final Pattern EXAMPLE = Pattern.compile("(?s)```java\n(.*?)```");
    private static final Pattern CALL = Pattern.compile("(x\\..*\\));\\s*// (-?\\d+L?|GatedWorks\\.[A-Z]+)(:.*)?");
    private static final int CALLS_OF_THE_FACE = 28;

    private static final Due DUE = new Due();

    public static void main(String[] args) throws Exception {
        String readme = Files.readString(Path.of("README.md"));
        String code = program(readme);
        Path folder = Files.createTempDirectory("readme");
        try {
            run(code, folder);
        } finally {
            remove(folder);
        }
        allCallsAreShown(readme);
        DUE.end();
    }

    /** Called by the program that is made of README.md. */
    public static void is(String call, long got, long want) {
        DUE.is(call, got, want);
    }

    private static String program(String readme) {
        StringBuilder body = new StringBuilder();
        Matcher example = EXAMPLE.matcher(readme);
        while (example.find()) {
            body.append("{\n");
            for (String line : example.group(1).split("\n")) {
                body.append(checked(line)).append('\n');
            }
            body.append("}\n");
        }
        return "public final class Readme { public static void main(String[] args) {\n" + body + "} }\n";
    }

    private static String checked(String line) {
        Matcher call = CALL.matcher(line);
        if (call.matches()) {
            return "ReadmeTest.is(\"" + call.group(1).replace("\"", "'") + "\", " + call.group(1) + ", " + call.group(2) + ");";
        }
        DUE.about(line);
        DUE.holds("an answer stands behind the call", !line.startsWith("x."));
        return line;
    }

    private static void run(String code, Path folder) throws Exception {
        DUE.about("README.md");
        JavaCompiler compiler = ToolProvider.getSystemJavaCompiler();
        SimpleJavaFileObject source = new SimpleJavaFileObject(URI.create("string:///Readme.java"), SimpleJavaFileObject.Kind.SOURCE) {
            @Override
            public CharSequence getCharContent(boolean ignoreEncodingErrors) {
                return code;
            }
        };
        List<String> options = List.of("-cp", System.getProperty("java.class.path"), "-d", folder.toString());
        boolean compiles = compiler.getTask(null, null, null, options, null, List.of(source)).call();
        DUE.holds("its Java compiles", compiles);
        if (compiles) {
            try (URLClassLoader loader = new URLClassLoader(new URL[] {folder.toUri().toURL()})) {
                loader.loadClass("Readme").getMethod("main", String[].class).invoke(null, (Object) new String[0]);
            }
        }
    }

    private static void allCallsAreShown(String readme) {
        DUE.about("README.md");
        int calls = 0;
        for (Method m : GatedWorks.class.getDeclaredMethods()) {
            if (Modifier.isPublic(m.getModifiers())) {
                calls++;
                DUE.holds(m.getName() + " is told of", readme.contains("x." + m.getName() + "(") || readme.contains("`" + m.getName() + "`"));
            }
        }
        DUE.is("calls of the face", calls, CALLS_OF_THE_FACE);
    }

    private static void remove(Path folder) throws IOException {
        try (Stream<Path> all = Files.walk(folder)) {
            for (Path path : (Iterable<Path>) all.sorted(Comparator.reverseOrder())::iterator) {
                Files.delete(path);
            }
        }
    }
}
