import java.io.IOException;
import java.lang.reflect.Method;
import java.nio.file.Files;
import java.nio.file.Path;
import java.util.Set;
import java.util.TreeSet;
import java.util.regex.Matcher;
import java.util.regex.Pattern;

/** The calls that README.md shows answer what it says behind them, and every method is shown. */
public final class ReadmeTest {
    private static final Due D = new Due("ReadmeTest");
    private static final Pattern CALL = Pattern.compile("station\\.(\\w+)\\((.*)\\);\\s*// (-?\\d+)(:.*)?");

    public static void main(String[] args) throws ReflectiveOperationException, IOException {
        Set<String> notShown = new TreeSet<>();
        for (Method m : WinterStation.class.getMethods()) {
            if (m.getDeclaringClass() == WinterStation.class) {
                notShown.add(m.getName());
            }
        }
        WinterStation station = null;
        for (String line : Files.readAllLines(Path.of("README.md"))) {
            if (line.equals("WinterStation station = new WinterStation();")) {
                station = new WinterStation();
            } else if (line.startsWith("station.")) {
                Matcher call = CALL.matcher(line);
                D.due("a call with its answer: " + line, call.matches() ? 1 : 0, 1);
                D.due(line, ask(station, call.group(1), call.group(2)), Integer.parseInt(call.group(3)));
                notShown.remove(call.group(1));
            }
        }
        D.due("methods that are not shown: " + notShown, notShown.size(), 0);
        D.end();
    }

    private static int ask(WinterStation station, String name, String list)
            throws ReflectiveOperationException {
        String[] words = list.isEmpty() ? new String[0] : list.split(", ");
        for (Method m : WinterStation.class.getMethods()) {
            if (m.getName().equals(name) && m.getParameterCount() == words.length) {
                Object[] given = new Object[words.length];
                for (int i = 0; i < words.length; i++) {
                    boolean isNumber = m.getParameterTypes()[i] == int.class;
                    given[i] = isNumber ? (Object) Integer.decode(words[i]) : (Object) Boolean.valueOf(words[i]);
                }
                return (int) m.invoke(station, given);
            }
        }
        throw new NoSuchMethodException(name + " with " + words.length + " numbers");
    }
}
