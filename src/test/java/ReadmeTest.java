import java.io.IOException;
import java.lang.reflect.InvocationTargetException;
import java.lang.reflect.Method;
import java.lang.reflect.Modifier;
import java.nio.file.Files;
import java.nio.file.Path;
import java.util.Set;
import java.util.TreeSet;
import java.util.regex.Matcher;
import java.util.regex.Pattern;

/** Promises 1 to 28, as README.md tells them: each call there answers what stands behind it, and none is left out. */
public final class ReadmeTest {
    private static final Due DUE = new Due("ReadmeTest");
    private static final Pattern CALL = Pattern.compile("x\\.(\\w+)\\((.*?)\\); *// (-?\\d+): .*");
    private static final Pattern CONSTANT = Pattern.compile("(?m)^\\| (-\\d+) \\| `(\\w+)` \\|");

    private final ToothStones x = new ToothStones();
    private final Set<String> called = new TreeSet<>();

    public static void main(String[] args) throws IOException, IllegalAccessException, InvocationTargetException,
            NoSuchFieldException {
        String text = Files.readString(Path.of("README.md"));
        ReadmeTest test = new ReadmeTest();
        test.callsAnswerAsTold(text);
        test.everyCallIsTold();
        textIsStones(text);
        constantsAreAsTold(text);
        DUE.end();
    }

    private void callsAnswerAsTold(String text) throws IllegalAccessException, InvocationTargetException {
        String[] parts = text.split("(?m)^```");
        for (int i = 1; i < parts.length; i += 2) {
            String[] lines = parts[i].split("\n");
            for (int j = 1; j < lines.length && lines[0].equals("java"); j++) {
                Matcher call = CALL.matcher(lines[j]);
                if (call.matches()) {
                    DUE.is(lines[j], answer(call.group(1), call.group(2)), Integer.parseInt(call.group(3)));
                } else {
                    DUE.is("a call with its answer, or the object: " + lines[j],
                            lines[j].equals("ToothStones x = new ToothStones();") ? 1 : 0, 1);
                }
            }
        }
    }

    private int answer(String name, String told) throws IllegalAccessException, InvocationTargetException {
        called.add(name);
        for (Method m : ToothStones.class.getMethods()) {
            if (m.getName().equals(name)) {
                String[] values = told.isEmpty() ? new String[0] : told.split(", ");
                Object[] given = new Object[values.length];
                for (int i = 0; i < values.length; i++) {
                    given[i] = value(values[i], m.getParameterTypes()[i]);
                }
                return (int) m.invoke(x, given);
            }
        }
        throw new IllegalArgumentException("README.md tells a call that is not there: " + name);
    }

    private static Object value(String told, Class<?> type) {
        if (type == boolean.class) {
            return Boolean.parseBoolean(told);
        }
        long v = Long.decode(told.replace("L", ""));
        return type == long.class ? (Object) v : (Object) (int) v;
    }

    private void everyCallIsTold() {
        for (Method m : ToothStones.class.getDeclaredMethods()) {
            if (Modifier.isPublic(m.getModifiers())) {
                DUE.is("README.md tells " + m.getName(), called.contains(m.getName()) ? 1 : 0, 1);
            }
        }
    }

    private static void textIsStones(String text) {
        Matcher told = Pattern.compile("as in `\"(.*?)\"`").matcher(text);
        boolean isTold = told.find();
        DUE.is("README.md tells a text of STONES", isTold ? 1 : 0, 1);
        ToothStones read = new ToothStones();
        DUE.is("stones() of the text told", isTold ? Due.read(read, told.group(1)) : 0, 3);
        DUE.is("MARKS of the text told", Due.allMarks(read), 37);
    }

    private static void constantsAreAsTold(String text) throws NoSuchFieldException, IllegalAccessException {
        int told = 0;
        Matcher constant = CONSTANT.matcher(text);
        while (constant.find()) {
            DUE.is(constant.group(2), ToothStones.class.getField(constant.group(2)).getInt(null),
                    Integer.parseInt(constant.group(1)));
            told++;
        }
        DUE.is("constants that README.md tells", told, 8);
    }
}
