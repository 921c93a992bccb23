import java.io.IOException;
import java.lang.reflect.Method;
import java.lang.reflect.Modifier;
import java.nio.file.Files;
import java.nio.file.Path;
import java.util.HashMap;
import java.util.HashSet;
import java.util.List;
import java.util.Map;
import java.util.Set;
import java.util.regex.Matcher;
import java.util.regex.Pattern;

/** The calls that README.md shows answer what it says, and each call of the face is shown. */
public final class ReadmeTest {
    private static final Pattern CALL = Pattern.compile("\\bx\\.(\\w+)\\(([^()]*)\\);");
    private static final Pattern ANSWER = Pattern.compile("//\\s*(-?\\w+)");
    private static final Map<String, Long> NAMED = Map.of("NONE", -1L, "BAD", -2L, "STATE", -3L, "FULL", -4L,
            "NO", Long.MIN_VALUE);

    private final Checks checks = new Checks();
    private final Map<String, Method> face = new HashMap<>();
    private final Set<String> shown = new HashSet<>();
    private final EstateVessels x = new EstateVessels();

    private ReadmeTest() {
        for (Method method : EstateVessels.class.getDeclaredMethods()) {
            if (Modifier.isPublic(method.getModifiers())) {
                face.put(method.getName(), method);
            }
        }
    }

    public static void main(String[] args) throws IOException, ReflectiveOperationException {
        new ReadmeTest().read(Files.readAllLines(Path.of("README.md")));
    }

    private void read(List<String> lines) throws ReflectiveOperationException {
        boolean isCode = false;
        for (String line : lines) {
            if (line.startsWith("```")) {
                isCode = line.equals("```java");
            } else if (isCode && !line.equals("EstateVessels x = new EstateVessels();")) {
                play(line);
            }
        }
        for (String name : face.keySet()) {
            checks.holds("README.md shows " + name, shown.contains(name));
        }
        checks.finish("ReadmeTest");
    }

    /** Makes the calls of a line; the last one's answer is told behind them. */
    private void play(String line) throws ReflectiveOperationException {
        Matcher answer = ANSWER.matcher(line);
        Matcher calls = CALL.matcher(line);
        Long got = null;
        while (calls.find()) {
            got = call(calls.group(1), calls.group(2));
        }
        if (got == null || !answer.find()) {
            checks.holds("README.md has a call and its answer in: " + line, false);
            return;
        }
        Long due = NAMED.get(answer.group(1));
        checks.due("README.md: " + line, got, due == null ? Long.parseLong(answer.group(1)) : due);
    }

    private long call(String name, String given) throws ReflectiveOperationException {
        Method method = face.get(name);
        if (method == null) {
            checks.holds("README.md calls what there is: " + name, false);
            return 0;
        }
        shown.add(name);
        Class<?>[] types = method.getParameterTypes();
        String[] told = given.isEmpty() ? new String[0] : given.split(", ");
        Object[] values = new Object[told.length];
        for (int k = 0; k < told.length; k++) {
            long v = told[k].startsWith("'") ? told[k].charAt(1) : Long.parseLong(told[k]);
            values[k] = types[k] == long.class ? (Object) v : (Object) (int) v;
        }
        return ((Number) method.invoke(x, values)).longValue();
    }
}
