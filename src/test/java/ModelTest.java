import java.util.Random;

/** Runs of many calls, drawn from told seeds: the program answers each as PlainModel does. */
public final class ModelTest {
    private static final Due DUE = new Due("ModelTest");
    // an object is used for at most 512 calls: the last steps take up to 140 more
    private static final int RUNS = 6000, CALLS = 370;
    private static final int[] WILD = {Integer.MIN_VALUE, Integer.MAX_VALUE, -1000, 1000, -99, 99, -100, 100, 24, 25, 12, 13, -1};
    private static final String SIGNS = "3333444455566789,,,,@@psh 0123a";

    private final Random random;
    private final ToothStones x = new ToothStones();
    private final PlainModel m = new PlainModel();
    private final String run;
    private int calls;

    private ModelTest(int seed) {
        random = new Random(seed);
        run = "run " + seed + ": ";
    }

    public static void main(String[] args) {
        for (int seed = 0; seed < RUNS; seed++) {
            ModelTest run = new ModelTest(seed);
            run.begin();
            while (run.calls < CALLS) {
                run.anyCall();
            }
            run.compareAll();
        }
        DUE.end();
    }

    /** Mostly few TEETH, so that much fits and MARKS come UP again. */
    private int teeth() {
        return random.nextInt(4) == 0 ? 3 + random.nextInt(7) : 3 + random.nextInt(2);
    }

    private int kind() {
        int[] kinds = {0, 0, 0, 0, 0, 2, 2, 1, 3};
        return kinds[random.nextInt(kinds.length)];
    }

    /** A number of those below n, rarely another. */
    private int some(int n) {
        int rare = random.nextInt(40);
        if (rare == 0) {
            return WILD[random.nextInt(WILD.length)];
        }
        return rare == 1 ? n : rare == 2 ? -1 : random.nextInt(n);
    }

    /** Mostly the number of a STONE that there is. */
    private int stone() {
        return random.nextInt(3) == 0 ? some(13) : some(Math.max(1, m.count(0)));
    }

    private void begin() {
        int stones = random.nextInt(13);
        for (int i = 0; i < stones; i++) {
            int kind = kind(), first = teeth(), second = teeth();
            same("stone", x.stone(kind, first, second), m.stone(kind, first, second));
            int hand = random.nextInt(3) - 1;
            same("deal", x.deal(i, hand), m.deal(i, hand));
        }
        for (int sheet = 0; sheet < 3 && random.nextInt(4) != 0; sheet++) {
            same("sheet", x.sheet(sheet, sheet, 24), m.sheet(sheet, sheet, 24));
        }
    }

    private void same(String call, int got, int want) {
        calls++;
        DUE.is(run + call, got, want);
    }

    private void anyCall() {
        switch (random.nextInt(13)) {
            case 0 -> stoneCall();
            case 1 -> {
                int stone = stone(), wheel = some(2), v = random.nextBoolean() ? 0 : some(5);
                same("mark(" + stone + ", " + wheel + ", " + v + ")", x.mark(stone, wheel, v), m.mark(stone, wheel, v));
            }
            case 2 -> {
                int stone = stone(), hand = some(3) - 1;
                same("deal(" + stone + ", " + hand + ")", x.deal(stone, hand), m.deal(stone, hand));
            }
            case 3 -> text();
            case 4, 5 -> {
                int stone = stone(), front = some(2);
                same("may(" + stone + ", " + front + ")", x.may(stone, front), m.may(stone, front));
                same("lay(" + stone + ", " + front + ")", x.lay(stone, front), m.lay(stone, front));
            }
            case 6 -> ringAndTake();
            case 7, 8 -> cranks();
            case 9 -> bestAndMatch();
            case 10 -> images();
            default -> sheets();
        }
        if (random.nextInt(20) == 0) {
            compareAll();
        }
    }

    private void stoneCall() {
        int kind = random.nextInt(9) == 0 ? some(4) : kind(), first = teeth(), second = random.nextInt(9) == 0 ? some(12) : teeth();
        if (random.nextInt(3) == 0) {
            same("stone(" + kind + ", " + first + ", " + second + ")", x.stone(kind, first, second), m.stone(kind, first, second));
        }
        int stone = stone(), what = some(8);
        same("told(" + stone + ", " + what + ")", x.told(stone, what), m.told(stone, what));
        same("count(" + what + ")", x.count(what), m.count(what));
    }

    private void text() {
        if (random.nextInt(4) != 0) {
            return;
        }
        StringBuilder text = new StringBuilder();
        int stones = 1 + random.nextInt(9);
        for (int i = 0; i < stones; i++) {
            int first = teeth(), second = teeth();
            text.append(i == 0 ? "" : ",").append(first).append(second).append(new String[] {"", "p", "s", "h"}[kind()]);
            if (random.nextInt(3) == 0) {
                text.append('@').append(random.nextInt(first)).append(random.nextInt(second));
            }
            if (random.nextInt(6) == 0) {
                text.insert(random.nextInt(text.length() + 1), ' ');
            }
        }
        int faults = Math.max(0, random.nextInt(5) - 2);
        for (int i = 0; i < faults && text.length() > 0; i++) {
            int at = random.nextInt(text.length());
            switch (random.nextInt(3)) {
                case 0 -> text.setCharAt(at, SIGNS.charAt(random.nextInt(SIGNS.length())));
                case 1 -> text.deleteCharAt(at);
                default -> text.setLength(at);
            }
        }
        int blanks = Math.max(0, random.nextInt(6) - 3);
        for (int i = 0; i < blanks; i++) {
            text.insert(random.nextBoolean() ? text.length() : random.nextInt(text.length() + 1), ' ');
        }
        for (int i = 0; i < text.length(); i += 8) {
            String part = text.substring(i, Math.min(text.length(), i + 8));
            long w = Due.word(part) | (random.nextInt(30) == 0 ? random.nextLong() : 0);
            int n = random.nextInt(60) == 0 ? some(9) : part.length();
            same("type", x.type(w, n), m.type(w, n));
        }
        same("stones() of '" + text + "'", x.stones(), m.stones());
    }

    private void ringAndTake() {
        if (random.nextInt(3) == 0) {
            int n = random.nextInt(3) == 0 ? some(13) : 1 + random.nextInt(3);
            same("take(" + n + ")", x.take(n), m.take(n));
        } else {
            boolean is = random.nextBoolean();
            same("shut(" + is + ")", x.shut(is), m.shut(is));
        }
    }

    private void cranks() {
        same("locked()", x.locked(), m.locked());
        int teeth = random.nextInt(4) == 0 ? some(200) - 100 : random.nextInt(7) - 3;
        switch (random.nextInt(4)) {
            case 0 -> same("crank(" + teeth + ")", x.crank(teeth), m.crank(teeth));
            case 1 -> same("around()", x.around(), m.around());
            case 2 -> same("up()", x.up(), m.up());
            default -> {
                int stone = stone(), mark = some(5);
                same("point(" + stone + ", " + mark + ")", x.point(stone, mark), m.point(stone, mark));
            }
        }
    }

    private void bestAndMatch() {
        int hand = some(2), what = some(3);
        same("best(" + hand + ", " + what + ")", x.best(hand, what), m.best(hand, what));
        if (random.nextInt(3) == 0) {
            int n = some(25);
            same("match(" + n + ")", x.match(n), m.match(n));
        }
    }

    private void images() {
        switch (random.nextInt(4)) {
            case 0 -> same("image()", x.image(), m.image());
            case 1 -> same("restore()", x.restore(), m.restore());
            default -> {
                int v = random.nextInt() >> random.nextInt(31);
                same("seed(" + v + ")", x.seed(v), m.seed(v));
            }
        }
    }

    private void sheets() {
        int sheet = some(4), lane = sheet == 3 ? some(3) : sheet % 3;
        int from = random.nextInt(3) == 0 ? some(24) : random.nextInt(3);
        switch (random.nextInt(6)) {
            case 0 -> {
                int n = random.nextInt(3) == 0 ? some(25) : 24;
                same("sheet(" + sheet + ", " + lane + ", " + n + ")", x.sheet(sheet, lane, n), m.sheet(sheet, lane, n));
            }
            case 1 -> {
                if (random.nextInt(8) == 0) {
                    same("drop(" + sheet + ")", x.drop(sheet), m.drop(sheet));
                }
            }
            case 2 -> same("film(" + sheet + ", " + lane + ", " + from + ")", x.film(sheet, lane, from), m.film(sheet, lane, from));
            case 3 -> judge(sheet, lane, from);
            case 4 -> order(sheet, lane, from);
            default -> {
                int v = random.nextInt(4) == 0 ? random.nextInt() : some(9);
                same("item(" + sheet + ", " + lane + ", " + from + ", " + v + ")",
                        x.item(sheet, lane, from, v), m.item(sheet, lane, from, v));
            }
        }
    }

    private void judge(int sheet, int lane, int from) {
        int n = 1 + some(6);
        for (int i = 0; i < 2 * n && i < 24 && from >= 0 && from < 24; i++) {
            int v = i % 2 == 0 ? some(Math.max(1, m.count(0))) : some(2);
            same("item for judged", x.item(sheet, lane, from + i, v), m.item(sheet, lane, from + i, v));
        }
        same("judged(" + sheet + ", " + lane + ", " + from + ", " + n + ")",
                x.judged(sheet, lane, from, n), m.judged(sheet, lane, from, n));
    }

    /** Two to five STONES, but of few that there are fewer. */
    private int someSet() {
        int set = 0;
        int size = 2 + random.nextInt(4);
        for (int i = 0; i < size; i++) {
            set |= 1 << random.nextInt(Math.max(1, m.count(0)));
        }
        return set;
    }

    /** MARKS that some row brings: STONES are laid in some row, told to the SHEET, and all is restored. */
    private void order(int sheet, int lane, int from) {
        int set = random.nextInt(6) == 0 ? some(4096) : someSet();
        if (random.nextBoolean()) {
            same("image() for orders", x.image(), m.image());
            same("shut(false) for orders", x.shut(false), m.shut(false));
            same("take for orders", x.take(Math.max(1, x.count(1))), m.take(Math.max(1, m.count(1))));
            int first = random.nextInt(12);
            int told = 0;
            for (int i = 0; i < 12; i++) {
                int stone = (first + i * 5) % 12;
                if ((set >> stone & 1) == 1 && told < 5) {
                    same("lay for orders", x.lay(stone, 0), m.lay(stone, 0));
                    told++;
                }
            }
            int item = from;
            for (int stone = 0; stone < 12; stone++) {
                for (int wheel = 0; wheel < 2 && (set >> stone & 1) == 1; wheel++) {
                    int v = m.told(stone, 3 + wheel);
                    same("item for orders", x.item(sheet, lane, item, v), m.item(sheet, lane, item, v));
                    item++;
                }
            }
            same("restore() for orders", x.restore(), m.restore());
        }
        for (int k = -1; k < 3; k++) {
            String call = "orders(" + set + ", " + sheet + ", " + lane + ", " + from + ", " + k + ")";
            same(call, x.orders(set, sheet, lane, from, k), m.orders(set, sheet, lane, from, k));
        }
    }

    private void compareAll() {
        for (int what = 0; what < 8; what++) {
            same("all: count(" + what + ")", x.count(what), m.count(what));
            for (int stone = 0; stone < m.count(0); stone++) {
                same("all: told(" + stone + ", " + what + ")", x.told(stone, what), m.told(stone, what));
            }
        }
    }
}
