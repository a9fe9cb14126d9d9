import java.io.IOException;
import java.lang.reflect.Method;
import java.lang.reflect.Modifier;
import java.nio.file.Files;
import java.nio.file.Path;
import java.util.Set;
import java.util.TreeSet;
import java.util.regex.Matcher;
import java.util.regex.Pattern;

/** The calls that README.md tells, one after the other on one object, with the answers told behind them. */
public final class ReadmeTest {
    private static final Pattern TEXT = Pattern.compile("for \\(char letter : \"([^\"]*)\"");
    private static final Pattern CALL = Pattern.compile("^x\\.(\\w+)\\((.*?)\\);\\s*// (-?\\d+)(?:: .*)?$");
    private static final Due due = new Due();

    public static void main(String[] args) throws ReflectiveOperationException, IOException {
        MulesRemember x = new MulesRemember();
        Set<String> untold = names();
        for (String line : Files.readAllLines(Path.of("README.md"))) {
            Matcher text = TEXT.matcher(line);
            Matcher call = CALL.matcher(line);
            if (text.find()) {
                Due.write(x, text.group(1));
                untold.remove("write");
            } else if (call.matches()) {
                untold.remove(call.group(1));
                due.is(line, answer(x, call.group(1), call.group(2)), Long.parseLong(call.group(3)));
            } else {
                due.is("no call without its answer: " + line, line.startsWith("x.") ? 1 : 0, 0);
            }
        }
        due.is("calls that README.md does not tell: " + untold, untold.size(), 0);
        due.end();
    }

    private static Set<String> names() {
        Set<String> names = new TreeSet<>();
        for (Method m : MulesRemember.class.getDeclaredMethods()) {
            if (Modifier.isPublic(m.getModifiers())) {
                names.add(m.getName());
            }
        }
        return names;
    }

    private static long answer(MulesRemember x, String name, String told) throws ReflectiveOperationException {
        String[] values = told.isEmpty() ? new String[0] : told.split(", ");
        for (Method m : MulesRemember.class.getDeclaredMethods()) {
            if (Modifier.isPublic(m.getModifiers()) && m.getName().equals(name)) {
                return ((Number) m.invoke(x, read(m.getParameterTypes(), values))).longValue();
            }
        }
        throw new NoSuchMethodException(name);
    }

    private static Object[] read(Class<?>[] types, String[] values) {
        Object[] read = new Object[values.length];
        for (int i = 0; i < values.length; i++) {
            if (types[i] == boolean.class) {
                read[i] = Boolean.valueOf(values[i]);
            } else if (types[i] == long.class) {
                read[i] = Long.valueOf(values[i]);
            } else {
                read[i] = Integer.valueOf(values[i]);
            }
        }
        return read;
    }
}
