/** Prints every answer that is not the one that is due; end() ends the test with exit code 1 if there was one. */
final class Due {
    private final String test;
    private int right;
    private int wrong;

    Due(String test) {
        this.test = test;
    }

    void is(String call, long got, long want) {
        if (got == want) {
            right++;
            return;
        }
        wrong++;
        if (wrong <= 20) {
            System.out.println(test + ": " + call + " answered " + got + ", due is " + want);
        }
    }

    void end() {
        System.out.println(test + ": " + right + " answers as due, " + wrong + " not");
        if (wrong != 0) {
            System.exit(1);
        }
    }

    /** Puts a text on THE TAPE, eight bytes a call: what the last call answers. */
    static int typed(ToothStones x, String text) {
        int answer = 0;
        for (int i = 0; i < text.length(); i += 8) {
            String part = text.substring(i, Math.min(text.length(), i + 8));
            answer = x.type(word(part), part.length());
        }
        return answer;
    }

    static long word(String upToEightBytes) {
        long w = 0;
        for (int i = 0; i < upToEightBytes.length(); i++) {
            w = w << 8 | upToEightBytes.charAt(i);
        }
        return w;
    }

    /** What stones() answers to a text. */
    static int read(ToothStones x, String text) {
        typed(x, text);
        return x.stones();
    }

    /** An object that has been told the STONES of a text. */
    static ToothStones of(String text) {
        ToothStones x = new ToothStones();
        read(x, text);
        return x;
    }

    /** MARKS of a STONE as one number of two digits. */
    static int marks(ToothStones x, int stone) {
        return 10 * x.told(stone, 3) + x.told(stone, 4);
    }

    /** MARKS of STONES 0, 1, .. as one number, two digits each. */
    static long allMarks(ToothStones x) {
        long all = 0;
        for (int stone = 0; stone < x.count(0); stone++) {
            all = 100 * all + marks(x, stone);
        }
        return all;
    }

    /** A SHEET of a LANE that holds these items. */
    static void fill(ToothStones x, int sheet, int lane, int... items) {
        x.sheet(sheet, lane, items.length);
        for (int i = 0; i < items.length; i++) {
            x.item(sheet, lane, i, items[i]);
        }
    }
}
