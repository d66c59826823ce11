import java.io.IOException;
import java.lang.reflect.Constructor;
import java.lang.reflect.Field;
import java.lang.reflect.Method;
import java.lang.reflect.Modifier;
import java.nio.file.Files;
import java.nio.file.Path;
import java.util.Arrays;
import java.util.Set;
import java.util.TreeSet;
import java.util.regex.Matcher;
import java.util.regex.Pattern;

/** The public face is the document's, and the program keeps to those rules of LANGUAGE.md that can be seen so. */
public final class FaceTest {
    private static final Due DUE = new Due("FaceTest");
    private static final String[] CONSTANTS =
        {"BAD -1", "NOT -2", "FULL -3", "NONE -4", "NULL -11", "CAST -12", "INDEX -13", "SIZE -14"};
    private static final String[] METHODS = {"stone int int int", "mark int int int", "told int int", "deal int int",
        "type long int", "stones", "count int", "may int int", "lay int int", "take int", "shut boolean", "locked",
        "crank int", "around", "up", "best int int", "point int int", "match int", "seed int", "image", "restore",
        "judged int int int int", "orders int int int int int", "sheet int int int", "drop int", "item int int int int",
        "film int int int"};

    public static void main(String[] args) throws IOException, IllegalAccessException {
        constantsAreTheDocuments();
        methodsAreTheDocuments();
        nothingElseCanBeSeen();
        sourceKeepsToTheLanguage();
        DUE.end();
    }

    private static void same(String what, Set<String> got, Set<String> want) {
        DUE.is(what + " " + got + ", due " + want, got.equals(want) ? 1 : 0, 1);
    }

    private static void isSo(String what, boolean is) {
        DUE.is(what, is ? 1 : 0, 1);
    }

    private static void constantsAreTheDocuments() throws IllegalAccessException {
        Set<String> got = new TreeSet<>();
        for (Field f : ToothStones.class.getDeclaredFields()) {
            if (!Modifier.isPrivate(f.getModifiers())) {
                isSo(f + " is a public constant", f.getModifiers() == (Modifier.PUBLIC | Modifier.STATIC | Modifier.FINAL));
                got.add(f.getName() + " " + f.getInt(null));
            }
        }
        same("constants", got, new TreeSet<>(Arrays.asList(CONSTANTS)));
    }

    private static void methodsAreTheDocuments() {
        Set<String> got = new TreeSet<>();
        for (Method m : ToothStones.class.getDeclaredMethods()) {
            if (!Modifier.isPrivate(m.getModifiers())) {
                isSo(m + " is public", m.getModifiers() == Modifier.PUBLIC && m.getReturnType() == int.class);
                StringBuilder told = new StringBuilder(m.getName());
                for (Class<?> c : m.getParameterTypes()) {
                    told.append(' ').append(c.getName());
                }
                got.add(told.toString());
            }
        }
        same("methods", got, new TreeSet<>(Arrays.asList(METHODS)));
    }

    private static void nothingElseCanBeSeen() {
        isSo("public and final", ToothStones.class.getModifiers() == (Modifier.PUBLIC | Modifier.FINAL));
        Constructor<?>[] constructors = ToothStones.class.getDeclaredConstructors();
        isSo("one public constructor", constructors.length == 1 && constructors[0].getModifiers() == Modifier.PUBLIC);
        Set<String> face = new TreeSet<>();
        for (String method : METHODS) {
            face.add(method.split(" ")[0]);
        }
        for (Method m : ToothStones.class.getDeclaredMethods()) {
            isSo(m + " has a name of its own", Modifier.isPublic(m.getModifiers()) || !face.contains(m.getName()));
        }
        for (Class<?> c : ToothStones.class.getDeclaredClasses()) {
            isSo(c + " is static", Modifier.isStatic(c.getModifiers()) && !Modifier.isPublic(c.getModifiers()));
            isSo(c + " has some twenty fields", c.getDeclaredFields().length <= 20);
            for (Method m : c.getDeclaredMethods()) {
                isSo(m + " has a name of its own", !face.contains(m.getName()));
                isSo(m + " takes at most seven", m.getParameterCount() <= 7);
            }
        }
    }

    private static void sourceKeepsToTheLanguage() throws IOException {
        String source = Files.readString(Path.of("src/main/java/ToothStones.java"));
        String code = source.replaceAll("(?s)/\\*.*?\\*/", "").replaceAll("//[^\n]*", "");
        for (String word : new String[] {"throw", "throws", "try", "catch", "finally", "synchronized", "assert", "package",
            "import", "instanceof", "static \\{", "Object", "var", "double", "float", "->", "::", "Exact", "Random"}) {
            Matcher found = Pattern.compile(Character.isLetter(word.charAt(0)) ? "\\b" + word + "\\b" : word).matcher(code);
            isSo("no " + word, !found.find());
        }
        for (String line : code.split("\n")) {
            // all calls share one room, so rows and parts are made with the object alone
            isSo("made with the object: " + line.strip(), !line.contains("new ")
                    || line.contains(" final ") || line.contains("sheets[i] = new Sheet()"));
        }
        for (char sign : source.toCharArray()) {
            if (sign > 126 || sign < 32 && sign != '\n') {
                DUE.is("a sign of the source", sign, ' ');
            }
        }
    }
}
