import java.io.IOException;
import java.nio.file.Files;
import java.nio.file.Path;
import java.util.ArrayList;
import java.util.List;
import java.util.function.Supplier;
import java.util.function.ToIntFunction;

/**
 * Keeps, for all tests of boundary cases, which promise and which sentence of the document each one is for. At the end
 * every sentence that was told must stand in the document, and every sentence of the promises and of the Terms must
 * have been told by some test.
 */
final class Edges {
    private static final Path DOCUMENT = Path.of("../shared/DOC.md");
    private static final int PROMISES = 28;

    private final Due due = new Due("BoundariesTest");
    private final List<Integer> promises = new ArrayList<>();
    private final List<String> sentences = new ArrayList<>();
    private int asked = 1;

    /** All answers that follow are due by this sentence, told in this promise, or in the Terms for it. */
    void sentence(int promise, String sentence) {
        noneIsEmpty();
        promises.add(promise);
        sentences.add(sentence);
        asked = 0;
    }

    private void noneIsEmpty() {
        if (asked == 0) {
            due.is("answers asked for " + where(), 0, 1);
        }
    }

    private String where() {
        int last = sentences.size() - 1;
        return last < 0 ? "nothing" : "promise " + promises.get(last) + ", \"" + sentences.get(last) + "\"";
    }

    void is(String call, long got, long want) {
        asked++;
        due.is(where() + ": " + call, got, want);
    }

    void same(String what, String got, String want) {
        asked++;
        due.is(where() + ": " + what + ": " + got + ", due " + want, got.equals(want) ? 1 : 0, 1);
    }

    /** A call is refused, and the object is then as its twin that was not asked. */
    void refused(String call, Supplier<ToothStones> made, ToIntFunction<ToothStones> asking, int want) {
        ToothStones x = made.get();
        is(call, asking.applyAsInt(x), want);
        same(call + " changes nothing", all(x), all(made.get()));
    }

    /** STONES, TRAIN, HANDS, SCORES, RING and THE DRAW. */
    static String table(ToothStones x) {
        StringBuilder told = new StringBuilder("counts");
        for (int what = 0; what < 8; what++) {
            told.append(' ').append(x.count(what));
        }
        int stones = x.count(0);
        for (int stone = 0; stone < stones; stone++) {
            told.append(", stone ").append(stone);
            for (int what = 0; what < 8; what++) {
                told.append(' ').append(x.told(stone, what));
            }
        }
        int draw = x.seed(0);
        x.seed(draw);
        return told.append(", draw ").append(draw).toString();
    }

    /** All that can be seen of an object, which is used up by that: the table, THE TAPE, the IMAGE, SHEETS. */
    static String all(ToothStones x) {
        StringBuilder told = new StringBuilder(table(x));
        told.append("; tape ").append(x.type(' ', 1)).append(' ').append(x.stones()).append(' ').append(x.count(0));
        int restored = x.restore();
        told.append("; image ").append(restored == 1 ? table(x) : "none");
        for (int sheet = 0; sheet < 4; sheet++) {
            told.append("; sheet ").append(sheet);
            for (int lane = 0; lane < 3; lane++) {
                int refusal = x.item(sheet, lane, -1, 0);
                told.append(' ').append(refusal);
                for (int from = 0; refusal == ToothStones.INDEX && from < 23; from++) {
                    told.append('.').append(x.judged(sheet, lane, from, 1));
                }
            }
            told.append(" of ").append(x.drop(sheet));
        }
        return told.toString();
    }

    void end() throws IOException {
        noneIsEmpty();
        String[] parts = Files.readString(DOCUMENT).split("(?m)^## ");
        String[] texts = new String[PROMISES + 1];
        for (String part : parts) {
            if (part.startsWith("Promise ")) {
                int promise = Integer.parseInt(part.substring(8, part.indexOf(':')));
                texts[promise] = flat(part.substring(part.indexOf("`: ") + 3));
            } else if (part.startsWith("Terms")) {
                texts[0] = flat(terms(part));
            }
        }
        String object = flat(Files.readString(DOCUMENT));
        boolean[][] isTold = new boolean[texts.length][];
        for (int i = 0; i < texts.length; i++) {
            isTold[i] = new boolean[texts[i].length()];
        }
        for (int i = 0; i < sentences.size(); i++) {
            int promise = promises.get(i);
            String sentence = sentences.get(i);
            boolean isOwn = tell(texts[promise], isTold[promise], sentence);
            boolean isTerm = !isOwn && tell(texts[0], isTold[0], sentence);
            due.is("promise " + promise + ", in the document: " + sentence,
                    isOwn || isTerm || object.contains(sentence) ? 1 : 0, 1);
        }
        for (int i = 0; i < texts.length; i++) {
            due.is((i == 0 ? "Terms" : "promise " + i) + ", without a test: " + untold(texts[i], isTold[i]),
                    untold(texts[i], isTold[i]).length(), 0);
        }
        due.end();
    }

    private static String flat(String text) {
        return text.replaceAll("\\s+", " ").strip();
    }

    /** Without the lines that only say where a comment stands, but for the one that tells what a SHEET is. */
    private static String terms(String part) {
        StringBuilder kept = new StringBuilder();
        for (String line : part.substring(5).split("\n")) {
            if (line.startsWith("Ahead of the calls")) {
                kept.append(line.contains("---- 4 ") ? line.substring(line.indexOf("---- 4 ") + 7) : "");
            } else if (!line.startsWith("```")) {
                kept.append(line.replaceAll("^==== \\d ", ""));
            }
            kept.append(' ');
        }
        return kept.toString();
    }

    private static boolean tell(String text, boolean[] isTold, String sentence) {
        boolean isThere = false;
        for (int at = text.indexOf(sentence); at >= 0; at = text.indexOf(sentence, at + 1)) {
            for (int i = at; i < at + sentence.length(); i++) {
                isTold[i] = true;
            }
            isThere = true;
        }
        return isThere;
    }

    private static String untold(String text, boolean[] isTold) {
        StringBuilder left = new StringBuilder();
        for (int i = 0; i < text.length(); i++) {
            if (!isTold[i] && Character.isLetterOrDigit(text.charAt(i))) {
                left.append(text.charAt(i));
            }
        }
        return left.toString();
    }
}
