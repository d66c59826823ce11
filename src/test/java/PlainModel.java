import java.util.ArrayList;
import java.util.List;
import java.util.regex.Matcher;
import java.util.regex.Pattern;

/**
 * The document once more, as slowly and as unlike the program as may be: wheels are a graph that is walked, cranks go
 * tooth by tooth, a fault is found by trying prefixes. ModelTest compares the two.
 */
final class PlainModel {
    private static final int BAD = -1, NOT = -2, FULL = -3, NONE = -4, NULL = -11, CAST = -12, INDEX = -13, SIZE = -14;
    private static final Pattern TEXT = Pattern.compile(oneStone() + "(?:," + oneStone() + "){0,7}");

    private static final class Stone {
        int number;
        int kind;
        int[] teeth = new int[2];
        int[] marks = new int[2];
        int hand = NONE;
        int front;

        Stone copy() {
            Stone s = new Stone();
            s.number = number;
            s.kind = kind;
            s.teeth = teeth.clone();
            s.marks = marks.clone();
            s.hand = hand;
            s.front = front;
            return s;
        }
    }

    private List<Stone> stones = new ArrayList<>();
    private List<Stone> train = new ArrayList<>();
    private boolean ring;
    private int[] scores = new int[2];
    private long draw = 1;
    private PlainModel image;
    private String tape = "";
    private final Object[] sheets = new Object[4];

    private static String oneStone() {
        List<String> kinds = new ArrayList<>();
        for (char a = '3'; a <= '9'; a++) {
            for (char b = '3'; b <= '9'; b++) {
                kinds.add(a + "" + b + "[psh]?(?:@[0-" + (char) (a - 1) + "][0-" + (char) (b - 1) + "])?");
            }
        }
        return "(?:" + String.join("|", kinds) + ")";
    }

    private PlainModel copy() {
        PlainModel m = new PlainModel();
        m.become(this);
        return m;
    }

    private void become(PlainModel other) {
        stones = new ArrayList<>();
        train = new ArrayList<>();
        for (Stone s : other.stones) {
            stones.add(s.copy());
        }
        for (Stone s : other.train) {
            train.add(stones.get(s.number));
        }
        ring = other.ring;
        scores = other.scores.clone();
        draw = other.draw;
    }

    private boolean noStone(int s) {
        return s < 0 || s >= stones.size();
    }

    private boolean laid(int s) {
        return train.contains(stones.get(s));
    }

    int stone(int kind, int first, int second) {
        if (kind < 0 || kind > 3 || Math.min(first, second) < 3 || Math.max(first, second) > 9) {
            return BAD;
        }
        if (stones.size() == 12) {
            return FULL;
        }
        Stone s = new Stone();
        s.number = stones.size();
        s.kind = kind;
        s.teeth = new int[] {first, second};
        stones.add(s);
        return s.number;
    }

    int mark(int stone, int wheel, int v) {
        if (noStone(stone) || wheel != 0 && wheel != 1 || v < 0 || v >= stones.get(stone).teeth[wheel]) {
            return BAD;
        }
        int was = stones.get(stone).marks[wheel];
        stones.get(stone).marks[wheel] = v;
        return was;
    }

    int told(int stone, int what) {
        if (noStone(stone) || what < 0 || what > 7) {
            return BAD;
        }
        Stone s = stones.get(stone);
        int[] answers = {s.kind, s.teeth[0], s.teeth[1], s.marks[0], s.marks[1],
            laid(stone) ? train.indexOf(s) : NONE, laid(stone) ? s.front : NONE, laid(stone) ? NONE : s.hand};
        return answers[what];
    }

    int deal(int stone, int hand) {
        if (noStone(stone) || hand < -1 || hand > 1) {
            return BAD;
        }
        if (laid(stone)) {
            return NOT;
        }
        int was = told(stone, 7);
        stones.get(stone).hand = hand == -1 ? NONE : hand;
        return was;
    }

    int type(long w, int n) {
        if (n < 1 || n > 8) {
            return BAD;
        }
        String come = "";
        for (int i = 0; i < n; i++) {
            char b = (char) (w >> 8 * i & 255);
            if (b < 32 || b > 126) {
                return BAD;
            }
            come = b + come;
        }
        if (tape.length() + n > 80) {
            return FULL;
        }
        tape += come;
        return tape.length();
    }

    int stones() {
        String typed = tape;
        String text = typed.replace(" ", "");
        tape = "";
        if (!TEXT.matcher(text).matches()) {
            int good = 0;
            while (good < typed.length() && canBegin(typed.substring(0, good + 1).replace(" ", ""))) {
                good++;
            }
            return -20 - good;
        }
        stones = new ArrayList<>();
        train = new ArrayList<>();
        ring = false;
        scores = new int[2];
        for (String part : text.split(",")) {
            char kind = part.length() > 2 ? part.charAt(2) : ' ';
            int number = stone(" psh".indexOf(kind == '@' ? ' ' : kind), part.charAt(0) - '0', part.charAt(1) - '0');
            int at = part.indexOf('@');
            if (at >= 0) {
                mark(number, 0, part.charAt(at + 1) - '0');
                mark(number, 1, part.charAt(at + 2) - '0');
            }
        }
        return stones.size();
    }

    private static boolean canBegin(String prefix) {
        Matcher matcher = TEXT.matcher(prefix);
        return matcher.matches() || matcher.hitEnd();
    }

    int count(int what) {
        if (what < 0 || what > 7) {
            return BAD;
        }
        int[] inHand = new int[2];
        for (Stone s : stones) {
            if (s.hand >= 0 && !train.contains(s)) {
                inHand[s.hand]++;
            }
        }
        return new int[] {stones.size(), train.size(), inHand[0], inHand[1], scores[0], scores[1], ups(), ring ? 1 : 0}[what];
    }

    private int ups() {
        int up = 0;
        for (int[] wheel : wheels()) {
            if (stones.get(wheel[0]).marks[wheel[1]] == 0) {
                up++;
            }
        }
        return up;
    }

    /** Of all WHEELS of THE TRAIN in their row: STONE and WHEEL. */
    private List<int[]> wheels() {
        List<int[]> all = new ArrayList<>();
        for (Stone s : train) {
            all.add(new int[] {s.number, s.front});
            all.add(new int[] {s.number, 1 - s.front});
        }
        return all;
    }

    /** Ways of all WHEELS if one of them goes a way; null if two meet that can't. */
    private int[] ways(int turned, int way) {
        int size = 2 * train.size();
        int[] ways = new int[size];
        ways[turned] = way;
        boolean goesOn = true;
        while (goesOn) {
            goesOn = false;
            for (int i = 0; i < (ring ? size : size - 1); i++) {
                int j = (i + 1) % size;
                int sign = i % 2 == 0 && train.get(i / 2).kind == 2 ? 1 : -1;
                if (ways[i] != 0 && ways[j] == 0) {
                    ways[j] = sign * ways[i];
                    goesOn = true;
                } else if (ways[j] != 0 && ways[i] == 0) {
                    ways[i] = sign * ways[j];
                    goesOn = true;
                } else if (ways[i] != sign * ways[j]) {
                    return null;
                }
            }
        }
        return ways;
    }

    private int lock(int turned, int way) {
        int[] ways = ways(turned, way);
        if (ways == null) {
            return 1;
        }
        for (int i = ways.length - 1; i >= 0; i--) {
            Stone s = train.get(i / 2);
            if (s.kind % 2 == 1 && ways[i] < 0) {
                return 2 + s.number;
            }
        }
        return 0;
    }

    private void turnOnce(int turned, int way) {
        int[] ways = ways(turned, way);
        List<int[]> wheels = wheels();
        for (int i = 0; i < ways.length; i++) {
            Stone s = stones.get(wheels.get(i)[0]);
            int wheel = wheels.get(i)[1];
            int mark = s.marks[wheel] + ways[i];
            s.marks[wheel] = mark < 0 ? s.teeth[wheel] - 1 : mark == s.teeth[wheel] ? 0 : mark;
        }
    }

    private boolean near(int a, int b) {
        return a == b || a == b + 1 || b == a + 1;
    }

    private int lastTeeth() {
        Stone last = train.get(train.size() - 1);
        return last.teeth[1 - last.front];
    }

    private boolean mayBe(int stone, int front) {
        return train.isEmpty() || near(stones.get(stone).teeth[front], lastTeeth());
    }

    int may(int stone, int front) {
        if (noStone(stone) || front != 0 && front != 1) {
            return BAD;
        }
        if (laid(stone) || ring) {
            return NOT;
        }
        return mayBe(stone, front) ? 1 : 0;
    }

    int lay(int stone, int front) {
        if (may(stone, front) != 1) {
            return may(stone, front) == 0 ? NONE : may(stone, front);
        }
        if (!train.isEmpty()) {
            int last = 2 * train.size() - 1;
            if (lock(last, 1) == 0) {
                turnOnce(last, 1);
            }
        }
        Stone s = stones.get(stone);
        s.front = front;
        train.add(s);
        int score = 0;
        if (train.size() >= 2 && ups() == 2 * train.size()) {
            for (Stone one : train) {
                score += one.kind == 3 ? 2 : 1;
            }
        }
        if (s.hand >= 0) {
            scores[s.hand] += score;
        }
        s.hand = NONE;
        return score;
    }

    int take(int n) {
        if (n < 1 || n > 12) {
            return BAD;
        }
        if (train.size() < n) {
            return NOT;
        }
        for (int i = 0; i < n; i++) {
            train.remove(train.size() - 1);
        }
        ring = false;
        return train.size();
    }

    int shut(boolean is) {
        if (is && (train.size() < 3 || !near(train.get(0).teeth[train.get(0).front], lastTeeth()))) {
            return NOT;
        }
        int was = ring ? 1 : 0;
        ring = is;
        return was;
    }

    int locked() {
        return train.isEmpty() ? NONE : lock(2 * train.size() - 1, 1);
    }

    int crank(int teeth) {
        if (teeth < -99 || teeth > 99) {
            return BAD;
        }
        if (train.isEmpty()) {
            return NONE;
        }
        int way = teeth < 0 ? -1 : 1;
        if (teeth != 0 && lock(0, way) != 0) {
            return NOT;
        }
        for (int i = 0; i < Math.abs(teeth); i++) {
            turnOnce(0, way);
        }
        return ups();
    }

    private String marks() {
        StringBuilder all = new StringBuilder();
        for (int[] wheel : wheels()) {
            all.append(stones.get(wheel[0]).marks[wheel[1]]);
        }
        return all.toString();
    }

    private int crankRefused() {
        return train.isEmpty() ? NONE : lock(0, 1) != 0 ? NOT : 0;
    }

    int around() {
        if (crankRefused() != 0) {
            return crankRefused();
        }
        PlainModel m = copy();
        String now = marks();
        int teeth = 0;
        do {
            m.turnOnce(0, 1);
            teeth++;
        } while (!m.marks().equals(now));
        return teeth;
    }

    int up() {
        if (crankRefused() != 0) {
            return crankRefused();
        }
        PlainModel m = copy();
        String now = marks();
        int teeth = 0;
        while (m.ups() < 2 * train.size()) {
            m.turnOnce(0, 1);
            teeth++;
            if (m.marks().equals(now)) {
                return NONE;
            }
        }
        return teeth;
    }

    private List<int[]> laysOf(int hand) {
        List<int[]> lays = new ArrayList<>();
        for (Stone s : stones) {
            for (int front = 0; front < 2; front++) {
                if (s.hand == hand && may(s.number, front) == 1) {
                    lays.add(new int[] {s.number, front});
                }
            }
        }
        return lays;
    }

    int best(int hand, int what) {
        if (hand < 0 || hand > 1 || what < 0 || what > 2) {
            return BAD;
        }
        if (ring) {
            return NOT;
        }
        int[] found = null;
        for (int[] lay : laysOf(hand)) {
            PlainModel m = copy();
            int worth = m.lay(lay[0], lay[1]);
            int most = 0;
            for (int[] answer : m.laysOf(1 - hand)) {
                most = Math.max(most, m.copy().lay(answer[0], answer[1]));
            }
            if (found == null || worth - most > found[2] - 100) {
                found = new int[] {lay[0], lay[1], worth - most + 100};
            }
        }
        return found == null ? NONE : found[what];
    }

    int point(int stone, int mark) {
        if (noStone(stone) || !laid(stone)) {
            return BAD;
        }
        Stone s = stones.get(stone);
        if (mark < 0 || mark >= s.teeth[1 - s.front]) {
            return BAD;
        }
        if (crankRefused() != 0) {
            return crankRefused();
        }
        PlainModel m = copy();
        int teeth = 0;
        while (m.stones.get(stone).marks[1 - s.front] != mark) {
            m.turnOnce(0, 1);
            teeth++;
        }
        return teeth;
    }

    int match(int n) {
        if (n < 1 || n > 24) {
            return BAD;
        }
        if (ring) {
            return NOT;
        }
        int before = train.size();
        for (int turn = 0; turn < n; turn++) {
            List<int[]> lays = laysOf(turn % 2);
            if (!lays.isEmpty()) {
                draw = (draw * 1103515245L + 12345L) % (1L << 31);
                int[] lay = lays.get((int) (draw / 65536 % lays.size()));
                lay(lay[0], lay[1]);
            }
        }
        return train.size() - before;
    }

    int seed(int v) {
        if (v < 0) {
            return BAD;
        }
        int was = (int) draw;
        draw = v;
        return was;
    }

    int image() {
        image = copy();
        return 1;
    }

    int restore() {
        if (image == null) {
            return NONE;
        }
        become(image);
        return 1;
    }

    private static boolean noSheet(int sheet, int lane) {
        return sheet < 0 || sheet > 3 || lane < 0 || lane > 2;
    }

    private static int laneOf(Object row) {
        return row instanceof byte[] ? 0 : row instanceof short[] ? 1 : 2;
    }

    private static int sizeOf(Object row) {
        return java.lang.reflect.Array.getLength(row);
    }

    private int refused(int sheet, int lane, int from, int n) {
        Object row = sheets[sheet];
        if (row == null) {
            return NULL;
        }
        if (laneOf(row) != lane) {
            return CAST;
        }
        return from < 0 || (long) from + n > sizeOf(row) ? INDEX : 0;
    }

    private int get(int sheet, int i) {
        return java.lang.reflect.Array.getInt(sheets[sheet], i);
    }

    int judged(int sheet, int lane, int from, int n) {
        if (noSheet(sheet, lane) || n < 1 || n > 12) {
            return BAD;
        }
        if (refused(sheet, lane, from, 2 * n) != 0) {
            return refused(sheet, lane, from, 2 * n);
        }
        PlainModel m = copy();
        m.ring = false;
        m.train.clear();
        for (int i = 0; i < n; i++) {
            if (m.may(get(sheet, from + 2 * i), get(sheet, from + 2 * i + 1)) == BAD) {
                return NOT;
            }
        }
        for (int i = 0; i < n; i++) {
            if (m.lay(get(sheet, from + 2 * i), get(sheet, from + 2 * i + 1)) < 0) {
                return i;
            }
        }
        return NONE;
    }

    int orders(int set, int sheet, int lane, int from, int k) {
        List<Integer> of = new ArrayList<>();
        for (int s = 0; s < 32; s++) {
            if ((set >>> s & 1) == 1) {
                of.add(s);
            }
        }
        if (noSheet(sheet, lane) || of.size() < 2 || of.size() > 5 || noStone(of.get(of.size() - 1)) || k < -1 || k >= of.size()) {
            return BAD;
        }
        if (refused(sheet, lane, from, 2 * of.size()) != 0) {
            return refused(sheet, lane, from, 2 * of.size());
        }
        PlainModel m = copy();
        m.ring = false;
        m.train.clear();
        List<int[]> rows = new ArrayList<>();
        collect(m, of, sheet, from, new int[of.size()], 0, rows);
        return rows.isEmpty() ? NONE : k == -1 ? rows.size() : rows.get(0)[k];
    }

    private void collect(PlainModel m, List<Integer> of, int sheet, int from, int[] row, int depth, List<int[]> rows) {
        if (depth == of.size()) {
            for (int i = 0; i < of.size(); i++) {
                for (int wheel = 0; wheel < 2; wheel++) {
                    if (m.stones.get(of.get(i)).marks[wheel] != get(sheet, from + 2 * i + wheel)) {
                        return;
                    }
                }
            }
            rows.add(row.clone());
            return;
        }
        for (int stone : of) {
            PlainModel next = m.copy();
            if (next.lay(stone, 0) >= 0) {
                row[depth] = stone;
                collect(next, of, sheet, from, row, depth + 1, rows);
            }
        }
    }

    int sheet(int sheet, int lane, int n) {
        if (noSheet(sheet, lane) || n > 24) {
            return BAD;
        }
        if (n < 0) {
            return SIZE;
        }
        sheets[sheet] = lane == 0 ? new byte[n] : lane == 1 ? new short[n] : new int[n];
        return n;
    }

    int drop(int sheet) {
        if (noSheet(sheet, 0)) {
            return BAD;
        }
        if (sheets[sheet] == null) {
            return NULL;
        }
        int size = sizeOf(sheets[sheet]);
        sheets[sheet] = null;
        return size;
    }

    private void set(int sheet, int i, int v) {
        Object row = sheets[sheet];
        if (row instanceof byte[] bytes) {
            bytes[i] = (byte) v;
        } else if (row instanceof short[] shorts) {
            shorts[i] = (short) v;
        } else {
            ((int[]) row)[i] = v;
        }
    }

    int item(int sheet, int lane, int i, int v) {
        if (noSheet(sheet, lane)) {
            return BAD;
        }
        if (refused(sheet, lane, i, 1) != 0) {
            return refused(sheet, lane, i, 1);
        }
        set(sheet, i, v);
        return 1;
    }

    int film(int sheet, int lane, int from) {
        if (noSheet(sheet, lane)) {
            return BAD;
        }
        List<int[]> wheels = wheels();
        if (refused(sheet, lane, from, wheels.size()) != 0) {
            return refused(sheet, lane, from, wheels.size());
        }
        for (int i = 0; i < wheels.size(); i++) {
            set(sheet, from + i, stones.get(wheels.get(i)[0]).marks[wheels.get(i)[1]]);
        }
        return wheels.size();
    }
}
