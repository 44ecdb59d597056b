import java.io.IOException;
import java.lang.reflect.InvocationTargetException;
import java.lang.reflect.Method;
import java.nio.file.Files;
import java.nio.file.Path;
import java.util.regex.Matcher;
import java.util.regex.Pattern;

/** The calls that README.md shows, with the answers that stand behind them. */
public final class ReadmeTest {
    private static final Pattern CALL = Pattern.compile("\\s+roll\\.(\\w+)\\(([^)]*)\\);\\s*// (-?[0-9.]+)(:.*)?");
    private static final Dues dues = new Dues();

    public static void main(String[] args) throws IOException {
        SonMarks roll = null;
        int objects = 0;
        for (String line : Files.readAllLines(Path.of(System.getProperty("project.root", "."), "README.md"))) {
            Matcher call = CALL.matcher(line);
            if (line.trim().equals("SonMarks roll = new SonMarks();")) {
                roll = new SonMarks();
                objects++;
            } else if (call.matches()) {
                dues.dueDouble(line.trim(), answer(roll, call.group(1), call.group(2)),
                    Double.parseDouble(call.group(3)));
            } else {
                dues.due("a call that this test can't read: " + line, line.trim().startsWith("roll.") ? 1 : 0, 0);
            }
        }
        dues.due("README.md shows how to use objects", objects > 0 ? 1 : 0, 1);
        dues.end();
    }

    private static double answer(SonMarks roll, String name, String words) {
        String[] parts = words.isEmpty() ? new String[0] : words.split(", ");
        Object[] arguments = new Object[parts.length];
        for (int i = 0; i < parts.length; i++) {
            arguments[i] = parts[i].startsWith("'") ? (int) parts[i].charAt(1) : Integer.parseInt(parts[i]);
        }
        for (Method method : SonMarks.class.getMethods()) {
            if (method.getDeclaringClass() == SonMarks.class && method.getName().equals(name)) {
                return invoke(roll, method, arguments);
            }
        }
        return Double.NaN;
    }

    private static double invoke(SonMarks roll, Method method, Object[] arguments) {
        try {
            return ((Number) method.invoke(roll, arguments)).doubleValue();
        } catch (IllegalAccessException | InvocationTargetException | IllegalArgumentException e) {
            return Double.NaN;
        }
    }
}
