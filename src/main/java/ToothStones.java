/**
 * Dominoes with teeth, laid end to end in a train that turns as one. ../shared/DOC.md says what each call
 * answers; words in capitals below are its terms.
 *
 * <p>The public methods look at what they are given and refuse; the classes inside do what is asked.
 * All rows are made by the constructor and used again, so that no call makes an object.
 */
public final class ToothStones {
    public static final int BAD = -1, NOT = -2, FULL = -3, NONE = -4, NULL = -11, CAST = -12, INDEX = -13, SIZE = -14;

    private static final int FREE = 0, PAWLED = 1, STIFF = 2, HEAVY = 3;
    private static final int MOST_STONES = 12, FEWEST_TEETH = 3, MOST_TEETH = 9, HANDS = 2;
    private static final int MOST_BYTES = 80, MOST_STONES_IN_TEXT = 8, FIRST_FAULT = -20;
    private static final int SHEETS = 4, LANES = 3, MOST_ITEMS = 24;
    private static final int FEWEST_IN_ORDER = 2, MOST_IN_ORDER = 5, MOST_ORDERS = 120;
    private static final int FEWEST_IN_RING = 3, MOST_CRANK = 99, MOST_TURNS = 24;
    private static final int LOW_31_BITS = 0x7fffffff;
    private static final int ODD_RING = 1, LOCKING_STONE = 2, WORTH_ZERO = 100;

    private final Table table = new Table();
    private final Table kept = new Table();
    private boolean isKept;
    private final Table trial = new Table();
    private final Table answerTrial = new Table();
    private final Tape tape = new Tape();
    private final Sheet[] sheets = new Sheet[SHEETS];
    private final int[] order = new int[MOST_IN_ORDER];
    private final int[] firstOrder = new int[MOST_IN_ORDER];

    public ToothStones() {
        for (int i = 0; i < sheets.length; i++) {
            sheets[i] = new Sheet();
        }
    }

    // ---- 1 stones, hands

    public int stone(int kind, int first, int second) {
        if (!isWithin(kind, FREE, HEAVY) || !isTeeth(first) || !isTeeth(second)) {
            return BAD;
        }
        return table.isFull() ? FULL : table.addStone(kind, first, second);
    }

    public int mark(int stone, int wheel, int v) {
        if (!table.hasStone(stone) || !isWheel(wheel) || !isWithin(v, 0, table.teethOf(stone, wheel) - 1)) {
            return BAD;
        }
        int was = table.markOf(stone, wheel);
        table.setMark(stone, wheel, v);
        return was;
    }

    public int told(int stone, int what) {
        if (!table.hasStone(stone)) {
            return BAD;
        }
        switch (what) {
            case 0:
                return table.kindOf(stone);
            case 1:
            case 2:
                return table.teethOf(stone, what - 1);
            case 3:
            case 4:
                return table.markOf(stone, what - 3);
            case 5:
                return table.placeOf(stone);
            case 6:
                return table.frontOf(stone);
            case 7:
                return table.handOf(stone);
            default:
                return BAD;
        }
    }

    public int deal(int stone, int hand) {
        if (!table.hasStone(stone) || !isWithin(hand, -1, HANDS - 1)) {
            return BAD;
        }
        if (table.isLaid(stone)) {
            return NOT;
        }
        int was = table.handOf(stone);
        table.setHand(stone, hand < 0 ? NONE : hand);
        return was;
    }

    public int type(long w, int n) {
        if (!isWithin(n, 1, 8)) {
            return BAD;
        }
        for (int i = 0; i < n; i++) {
            if (!isWithin(lowByte(w, i), 32, 126)) {
                return BAD;
            }
        }
        if (tape.length() + n > MOST_BYTES) {
            return FULL;
        }
        for (int i = n - 1; i >= 0; i--) {
            tape.addByte(lowByte(w, i));
        }
        return tape.length();
    }

    public int stones() {
        // read to the trial first, since those told stay if there is a FAULT
        trial.copyFrom(table);
        trial.clear();
        int answer = tape.readTo(trial);
        tape.empty();
        if (answer > 0) {
            table.copyFrom(trial);
        }
        return answer;
    }

    public int count(int what) {
        switch (what) {
            case 0:
                return table.stoneCount();
            case 1:
                return table.trainLength();
            case 2:
            case 3:
                return table.handSize(what - 2);
            case 4:
            case 5:
                return table.scoreOf(what - 4);
            case 6:
                return table.upMarks();
            case 7:
                return table.isRing() ? 1 : 0;
            default:
                return BAD;
        }
    }

    // ---- 2 lays, cranks

    public int may(int stone, int front) {
        if (!table.hasStone(stone) || !isWheel(front)) {
            return BAD;
        }
        if (table.isLaid(stone) || table.isRing()) {
            return NOT;
        }
        return table.fits(stone, front) ? 1 : 0;
    }

    public int lay(int stone, int front) {
        int allowed = may(stone, front);
        if (allowed < 0) {
            return allowed;
        }
        return allowed == 0 ? NONE : table.layDown(stone, front);
    }

    public int take(int n) {
        if (!isWithin(n, 1, MOST_STONES)) {
            return BAD;
        }
        if (n > table.trainLength()) {
            return NOT;
        }
        table.liftLast(n);
        return table.trainLength();
    }

    public int shut(boolean is) {
        if (is && !table.canBeRing()) {
            return NOT;
        }
        int was = table.isRing() ? 1 : 0;
        table.setRing(is);
        return was;
    }

    public int locked() {
        return table.trainLength() == 0 ? NONE : table.lockOf(table.lastBackWay());
    }

    public int crank(int teeth) {
        if (!isWithin(teeth, -MOST_CRANK, MOST_CRANK)) {
            return BAD;
        }
        if (table.trainLength() == 0) {
            return NONE;
        }
        if (teeth != 0 && table.lockOf(teeth < 0 ? -1 : 1) != 0) {
            return NOT;
        }
        table.turnTrain(teeth);
        return table.upMarks();
    }

    public int around() {
        int refusal = crankRefusal();
        return refusal != 0 ? refusal : table.teethAround();
    }

    public int up() {
        int refusal = crankRefusal();
        return refusal != 0 ? refusal : table.teethUntilUp();
    }

    // ---- 3 best lays, orders

    public int best(int hand, int what) {
        if (!isHand(hand) || !isWithin(what, 0, 2)) {
            return BAD;
        }
        if (table.isRing()) {
            return NOT;
        }
        int found = NONE;
        int most = 0;
        for (int lay = 0; lay < 2 * MOST_STONES; lay++) {
            if (table.mayLay(hand, lay)) {
                int worth = worthOf(hand, lay);
                if (found == NONE || worth > most) {
                    found = lay;
                    most = worth;
                }
            }
        }
        if (found == NONE) {
            return NONE;
        }
        return what == 0 ? found / 2 : what == 1 ? found % 2 : most + WORTH_ZERO;
    }

    public int point(int stone, int mark) {
        if (!table.hasStone(stone) || !table.isLaid(stone)) {
            return BAD;
        }
        if (!isWithin(mark, 0, table.teethOf(stone, table.backOf(stone)) - 1)) {
            return BAD;
        }
        int refusal = crankRefusal();
        return refusal != 0 ? refusal : table.teethUntilPoint(stone, mark);
    }

    public int match(int n) {
        if (!isWithin(n, 1, MOST_TURNS)) {
            return BAD;
        }
        if (table.isRing()) {
            return NOT;
        }
        int laid = 0;
        for (int turn = 0; turn < n; turn++) {
            if (table.layDrawn(turn % HANDS)) {
                laid++;
            }
        }
        return laid;
    }

    public int seed(int v) {
        if (v < 0) {
            return BAD;
        }
        int was = table.drawIs();
        table.setDraw(v);
        return was;
    }

    public int image() {
        kept.copyFrom(table);
        isKept = true;
        return 1;
    }

    public int restore() {
        if (!isKept) {
            return NONE;
        }
        table.copyFrom(kept);
        return 1;
    }

    // ---- 4 sheets

    public int judged(int sheet, int lane, int from, int n) {
        Sheet told = sheetAt(sheet);
        if (told == null || !isLane(lane) || !isWithin(n, 1, MOST_STONES)) {
            return BAD;
        }
        int refusal = told.refusalOf(lane, from, 2 * n);
        if (refusal != 0) {
            return refusal;
        }
        for (int i = 0; i < n; i++) {
            if (!table.hasStone(told.itemAt(from + 2 * i)) || !isWheel(told.itemAt(from + 2 * i + 1))) {
                return NOT;
            }
        }
        return firstThatMayNot(told, from, n);
    }

    public int orders(int set, int sheet, int lane, int from, int k) {
        Sheet told = sheetAt(sheet);
        int size = Integer.bitCount(set);
        if (told == null || !isLane(lane) || !table.hasSet(set)) {
            return BAD;
        }
        if (!isWithin(size, FEWEST_IN_ORDER, MOST_IN_ORDER) || !isWithin(k, -1, size - 1)) {
            return BAD;
        }
        int refusal = told.refusalOf(lane, from, 2 * size);
        if (refusal != 0) {
            return refusal;
        }
        int found = countOrders(set, size, told, from);
        if (found == 0) {
            return NONE;
        }
        return k < 0 ? found : at(firstOrder, k);
    }

    public int sheet(int sheet, int lane, int n) {
        Sheet held = sheetAt(sheet);
        if (held == null || !isLane(lane) || n > MOST_ITEMS) {
            return BAD;
        }
        if (n < 0) {
            return SIZE;
        }
        held.holdNew(lane, n);
        return n;
    }

    public int drop(int sheet) {
        Sheet held = sheetAt(sheet);
        if (held == null) {
            return BAD;
        }
        return held.isNothing() ? NULL : held.holdNothing();
    }

    public int item(int sheet, int lane, int i, int v) {
        Sheet held = sheetAt(sheet);
        if (held == null || !isLane(lane)) {
            return BAD;
        }
        int refusal = held.refusalOf(lane, i, 1);
        if (refusal != 0) {
            return refusal;
        }
        held.setItem(i, v);
        return 1;
    }

    public int film(int sheet, int lane, int from) {
        Sheet held = sheetAt(sheet);
        if (held == null || !isLane(lane)) {
            return BAD;
        }
        int items = 2 * table.trainLength();
        int refusal = held.refusalOf(lane, from, items);
        if (refusal != 0) {
            return refusal;
        }
        for (int i = 0; i < table.trainLength(); i++) {
            int stone = table.stoneInTrain(i);
            held.setItem(from + 2 * i, table.markOf(stone, table.frontOf(stone)));
            held.setItem(from + 2 * i + 1, table.markOf(stone, table.backOf(stone)));
        }
        return items;
    }

    // ---- what the calls share

    private static boolean isWithin(int v, int least, int most) {
        return v >= least && v <= most;
    }

    private static boolean isTeeth(int v) {
        return isWithin(v, FEWEST_TEETH, MOST_TEETH);
    }

    private static boolean isWheel(int v) {
        return isWithin(v, 0, 1);
    }

    private static boolean isHand(int v) {
        return isWithin(v, 0, HANDS - 1);
    }

    private static boolean isLane(int v) {
        return isWithin(v, 0, LANES - 1);
    }

    private static int lowByte(long w, int i) {
        return (int) (w >>> (8 * i)) & 255;
    }

    private Sheet sheetAt(int i) {
        return i >= 0 && i < sheets.length ? sheets[i] : null;
    }

    /** Why CRANK forward is refused; 0 if it is not. */
    private int crankRefusal() {
        if (table.trainLength() == 0) {
            return NONE;
        }
        return table.lockOf(1) != 0 ? NOT : 0;
    }

    /** What a LAY (twice the STONE and the FRONT) is worth to a HAND, the other HAND's best answer taken off. */
    private int worthOf(int hand, int lay) {
        trial.copyFrom(table);
        int score = trial.layDown(lay / 2, lay % 2);
        int greatest = 0;
        for (int answer = 0; answer < 2 * MOST_STONES; answer++) {
            if (trial.mayLay(1 - hand, answer)) {
                answerTrial.copyFrom(trial);
                greatest = Math.max(greatest, answerTrial.layDown(answer / 2, answer % 2));
            }
        }
        return score - greatest;
    }

    private int firstThatMayNot(Sheet told, int from, int n) {
        trial.copyFrom(table);
        trial.liftLast(trial.trainLength());
        for (int i = 0; i < n; i++) {
            int stone = told.itemAt(from + 2 * i);
            int front = told.itemAt(from + 2 * i + 1);
            if (trial.isLaid(stone) || !trial.fits(stone, front)) {
                return i;
            }
            trial.layDown(stone, front);
        }
        return NONE;
    }

    /** How many ORDERS there are; the first is left in firstOrder. */
    private int countOrders(int set, int size, Sheet told, int from) {
        trial.copyFrom(table);
        trial.liftLast(trial.trainLength());
        startOrder(set);
        int found = 0;
        boolean isMore = true;
        for (int i = 0; i < MOST_ORDERS && isMore; i++) {
            if (bringsMarks(set, size, told, from)) {
                if (found == 0) {
                    copyRow(order, firstOrder);
                }
                found++;
            }
            isMore = nextOrder(size);
        }
        return found;
    }

    private void startOrder(int set) {
        int next = 0;
        for (int stone = 0; stone < MOST_STONES; stone++) {
            if (isIn(set, stone)) {
                put(order, next, stone);
                next++;
            }
        }
    }

    /** The row behind this one by the alphabet of STONES, so that the first found is the first of all; false: none. */
    private boolean nextOrder(int size) {
        int fall = size - 2;
        while (fall >= 0 && at(order, fall) > at(order, fall + 1)) {
            fall--;
        }
        if (fall < 0) {
            return false;
        }
        int greater = size - 1;
        while (greater > fall && at(order, greater) < at(order, fall)) {
            greater--;
        }
        swapInOrder(fall, greater);
        for (int low = fall + 1, high = size - 1; low < high; low++, high--) {
            swapInOrder(low, high);
        }
        return true;
    }

    private void swapInOrder(int i, int j) {
        int stone = at(order, i);
        put(order, i, at(order, j));
        put(order, j, stone);
    }

    private boolean bringsMarks(int set, int size, Sheet told, int from) {
        answerTrial.copyFrom(trial);
        for (int i = 0; i < size; i++) {
            int stone = at(order, i);
            if (!answerTrial.fits(stone, 0)) {
                return false;
            }
            answerTrial.layDown(stone, 0);
        }
        int item = from;
        for (int stone = 0; stone < MOST_STONES; stone++) {
            if (isIn(set, stone)) {
                if (answerTrial.markOf(stone, 0) != told.itemAt(item)
                        || answerTrial.markOf(stone, 1) != told.itemAt(item + 1)) {
                    return false;
                }
                item += 2;
            }
        }
        return true;
    }

    private static boolean isIn(int set, int stone) {
        return (set >> stone & 1) != 0;
    }

    /** Item i of a row, 0 where there is none: so no index is used untested. */
    private static int at(int[] row, int i) {
        return i >= 0 && i < row.length ? row[i] : 0;
    }

    private static void put(int[] row, int i, int v) {
        if (i >= 0 && i < row.length) {
            row[i] = v;
        }
    }

    private static void copyRow(int[] from, int[] to) {
        System.arraycopy(from, 0, to, 0, Math.min(from.length, to.length));
    }

    /** All that an IMAGE keeps. A LAY is told as one number, too: twice the STONE and the FRONT. */
    private static final class Table {
        private int stoneCount;
        private final int[] kinds = new int[MOST_STONES];
        // two places for each STONE, one for each WHEEL
        private final int[] teeth = new int[2 * MOST_STONES];
        private final int[] marks = new int[2 * MOST_STONES];
        private final int[] hands = new int[MOST_STONES];
        private final int[] places = new int[MOST_STONES];
        private final int[] fronts = new int[MOST_STONES];
        private int trainLength;
        private final int[] train = new int[MOST_STONES];
        private boolean isRing;
        private final int[] scores = new int[HANDS];
        private int draw = 1;

        void copyFrom(Table other) {
            stoneCount = other.stoneCount;
            copyRow(other.kinds, kinds);
            copyRow(other.teeth, teeth);
            copyRow(other.marks, marks);
            copyRow(other.hands, hands);
            copyRow(other.places, places);
            copyRow(other.fronts, fronts);
            trainLength = other.trainLength;
            copyRow(other.train, train);
            isRing = other.isRing;
            copyRow(other.scores, scores);
            draw = other.draw;
        }

        /** No STONE, no TRAIN, no SCORES; THE DRAW stays. */
        void clear() {
            stoneCount = 0;
            trainLength = 0;
            isRing = false;
            put(scores, 0, 0);
            put(scores, 1, 0);
        }

        boolean isFull() {
            return stoneCount >= MOST_STONES;
        }

        int addStone(int kind, int first, int second) {
            int stone = stoneCount;
            put(kinds, stone, kind);
            put(teeth, 2 * stone, first);
            put(teeth, 2 * stone + 1, second);
            setMark(stone, 0, 0);
            setMark(stone, 1, 0);
            setNotLaid(stone);
            stoneCount++;
            return stone;
        }

        private void setNotLaid(int stone) {
            put(hands, stone, NONE);
            put(places, stone, NONE);
            put(fronts, stone, NONE);
        }

        int stoneCount() {
            return stoneCount;
        }

        boolean hasStone(int stone) {
            return stone >= 0 && stone < stoneCount;
        }

        boolean hasSet(int set) {
            return set >= 0 && set < 1 << stoneCount;
        }

        int kindOf(int stone) {
            return at(kinds, stone);
        }

        int teethOf(int stone, int wheel) {
            return at(teeth, 2 * stone + wheel);
        }

        int markOf(int stone, int wheel) {
            return at(marks, 2 * stone + wheel);
        }

        void setMark(int stone, int wheel, int v) {
            put(marks, 2 * stone + wheel, v);
        }

        int handOf(int stone) {
            return at(hands, stone);
        }

        void setHand(int stone, int hand) {
            put(hands, stone, hand);
        }

        int handSize(int hand) {
            int size = 0;
            for (int stone = 0; stone < stoneCount; stone++) {
                if (handOf(stone) == hand) {
                    size++;
                }
            }
            return size;
        }

        int scoreOf(int hand) {
            return at(scores, hand);
        }

        int placeOf(int stone) {
            return at(places, stone);
        }

        boolean isLaid(int stone) {
            return placeOf(stone) >= 0;
        }

        int frontOf(int stone) {
            return at(fronts, stone);
        }

        int backOf(int stone) {
            return 1 - frontOf(stone);
        }

        int trainLength() {
            return trainLength;
        }

        int stoneInTrain(int place) {
            return at(train, place);
        }

        boolean isRing() {
            return isRing;
        }

        void setRing(boolean is) {
            isRing = is;
        }

        int drawIs() {
            return draw;
        }

        void setDraw(int v) {
            draw = v;
        }

        /** How many TEETH the last BACK has. */
        private int lastTeeth() {
            int last = at(train, trainLength - 1);
            return at(teeth, 2 * last + 1 - at(fronts, last));
        }

        private static boolean areNear(int someTeeth, int otherTeeth) {
            return Math.abs(someTeeth - otherTeeth) <= 1;
        }

        /** Whether a STONE not laid MAY be laid by a FRONT. */
        boolean fits(int stone, int front) {
            return trainLength == 0 || areNear(teethOf(stone, front), lastTeeth());
        }

        /** Whether a LAY is one of a HAND and MAY be. */
        boolean mayLay(int hand, int lay) {
            int stone = lay / 2;
            return hasStone(stone) && handOf(stone) == hand && fits(stone, lay % 2);
        }

        boolean canBeRing() {
            if (trainLength < FEWEST_IN_RING) {
                return false;
            }
            int first = stoneInTrain(0);
            return areNear(teethOf(first, frontOf(first)), lastTeeth());
        }

        /** A LAY that MAY be: what it SCORES. */
        int layDown(int stone, int front) {
            int way = lastBackWay();
            if (lockOf(way) == 0) {
                turnTrain(way);
            }
            int hand = handOf(stone);
            setNotLaid(stone);
            put(places, stone, trainLength);
            put(fronts, stone, front);
            put(train, trainLength, stone);
            trainLength++;
            int score = scoreNow();
            if (isHand(hand)) {
                put(scores, hand, scoreOf(hand) + score);
            }
            return score;
        }

        private int scoreNow() {
            if (trainLength < 2 || upMarks() < 2 * trainLength) {
                return 0;
            }
            int score = trainLength;
            for (int i = 0; i < trainLength; i++) {
                if (kindOf(stoneInTrain(i)) == HEAVY) {
                    score++;
                }
            }
            return score;
        }

        int upMarks() {
            int up = 0;
            for (int i = 0; i < trainLength; i++) {
                int stone = stoneInTrain(i);
                up += (markOf(stone, 0) == 0 ? 1 : 0) + (markOf(stone, 1) == 0 ? 1 : 0);
            }
            return up;
        }

        void liftLast(int n) {
            for (int i = 0; i < n && trainLength > 0; i++) {
                trainLength--;
                setNotLaid(stoneInTrain(trainLength));
            }
            isRing = false;
        }

        /** Which way a BACK goes (1 forward, -1 backward) if its FRONT goes a way. */
        private int backWay(int stone, int frontWay) {
            return at(kinds, stone) == STIFF ? frontWay : -frontWay;
        }

        /** Which way the BACK at a place in THE TRAIN goes if the first FRONT goes forward. */
        private int backWayAt(int place) {
            int way = -1;
            for (int i = 0; i <= place && i < trainLength; i++) {
                way = backWay(stoneInTrain(i), -way);
            }
            return way;
        }

        /** Likewise the last BACK: all turns are told by the first FRONT, and this tells it for a turn of the last BACK. */
        int lastBackWay() {
            return backWayAt(trainLength - 1);
        }

        /** What locks a turn of the first FRONT a way: 0 nothing, 1 an ODD RING, else 2 and the last STONE that does. */
        int lockOf(int way) {
            int lock = 0;
            int frontWay = way;
            int backWay = 0;
            for (int i = 0; i < trainLength; i++) {
                int stone = at(train, i);
                backWay = backWay(stone, frontWay);
                if (hasPawl(stone) && (frontWay < 0 || backWay < 0)) {
                    lock = LOCKING_STONE + stone;
                }
                frontWay = -backWay;
            }
            return isRing && backWay == way ? ODD_RING : lock;
        }

        private boolean hasPawl(int stone) {
            int kind = at(kinds, stone);
            return kind == PAWLED || kind == HEAVY;
        }

        /** Turns the first FRONT so many teeth forward, and THE TRAIN with it: that it is not LOCKED is asked before. */
        void turnTrain(int forward) {
            int by = forward;
            for (int i = 0; i < trainLength; i++) {
                int stone = stoneInTrain(i);
                turnWheel(stone, frontOf(stone), by);
                by = backWay(stone, by);
                turnWheel(stone, backOf(stone), by);
                by = -by;
            }
        }

        private void turnWheel(int stone, int wheel, int by) {
            setMark(stone, wheel, remainder(markOf(stone, wheel) + by, teethOf(stone, wheel)));
        }

        private static int remainder(int v, int divisor) {
            return divisor > 0 ? Math.floorMod(v, divisor) : 0;
        }

        /** RETURN, where CRANK forward is not LOCKED. */
        int teethAround() {
            int teethNeeded = 1;
            for (int i = 0; i < trainLength; i++) {
                int stone = stoneInTrain(i);
                teethNeeded = commonMultiple(teethNeeded, teethOf(stone, 0));
                teethNeeded = commonMultiple(teethNeeded, teethOf(stone, 1));
            }
            return teethNeeded;
        }

        private static int commonMultiple(int some, int other) {
            int multiple = some;
            for (int i = 1; i < other && remainder(multiple, other) != 0; i++) {
                multiple += some;
            }
            return multiple;
        }

        /**
         * UP AGAIN, where CRANK forward is not LOCKED. It goes from WHEEL to WHEEL: steps that bring all the WHEELS
         * behind it around leave their MARKS UP, so at most as many steps as it has TEETH are tried for each.
         */
        int teethUntilUp() {
            int forward = 0;
            int step = 1;
            int way = -1;
            for (int i = 0; i < 2 * trainLength; i++) {
                int stone = stoneInTrain(i / 2);
                boolean isFront = i % 2 == 0;
                int wheel = isFront ? frontOf(stone) : backOf(stone);
                way = isFront ? -way : backWay(stone, way);
                forward = firstUp(stone, wheel, way, forward, step);
                if (forward < 0) {
                    return NONE;
                }
                step = commonMultiple(step, teethOf(stone, wheel));
            }
            return forward;
        }

        /** The fewest of forward, forward and step, and so on, that bring the MARK of a WHEEL UP; or NONE. */
        private int firstUp(int stone, int wheel, int way, int forward, int step) {
            int wheelTeeth = teethOf(stone, wheel);
            int mark = markOf(stone, wheel);
            for (int i = 0; i < wheelTeeth; i++) {
                int teethTried = forward + i * step;
                if (remainder(mark + way * teethTried, wheelTeeth) == 0) {
                    return teethTried;
                }
            }
            return NONE;
        }

        /** POINT, where CRANK forward is not LOCKED. */
        int teethUntilPoint(int stone, int mark) {
            int back = backOf(stone);
            int away = mark - markOf(stone, back);
            return remainder(backWayAt(placeOf(stone)) * away, teethOf(stone, back));
        }

        /** A turn of a MATCH: whether a LAY of the HAND was drawn. */
        boolean layDrawn(int hand) {
            int lays = countLays(hand);
            if (lays == 0) {
                return false;
            }
            draw = draw * 1103515245 + 12345 & LOW_31_BITS;
            int ahead = remainder(draw / 65536, lays);
            for (int lay = 0; lay < 2 * MOST_STONES; lay++) {
                if (mayLay(hand, lay)) {
                    if (ahead == 0) {
                        layDown(lay / 2, lay % 2);
                        return true;
                    }
                    ahead--;
                }
            }
            return false;
        }

        private int countLays(int hand) {
            int lays = 0;
            for (int lay = 0; lay < 2 * MOST_STONES; lay++) {
                if (mayLay(hand, lay)) {
                    lays++;
                }
            }
            return lays;
        }
    }

    /** THE TAPE, and how STONES are read from it. */
    private static final class Tape {
        private final int[] bytes = new int[MOST_BYTES];
        private int length;
        // the place on THE TAPE that is read next: where it stands when something can't be read is the FAULT's
        private int place;

        int length() {
            return length;
        }

        void addByte(int b) {
            put(bytes, length, b);
            length++;
        }

        void empty() {
            length = 0;
        }

        /** Adds the STONES of the text to a table of none: how many, or the FAULT. */
        int readTo(Table table) {
            place = -1;
            stepOn();
            boolean isRead = readStone(table);
            for (int stone = 1; stone < MOST_STONES_IN_TEXT && isRead && place < length; stone++) {
                isRead = readSign(',') && readStone(table);
            }
            return isRead && place == length ? table.stoneCount() : FIRST_FAULT - place;
        }

        /** To the next byte that is no blank: blanks can stand anywhere, but as bytes of THE TAPE they have places. */
        private void stepOn() {
            do {
                place++;
            } while (place < length && at(bytes, place) == ' ');
        }

        private boolean readStone(Table table) {
            int first = readDigit(FEWEST_TEETH, MOST_TEETH);
            int second = first < 0 ? NONE : readDigit(FEWEST_TEETH, MOST_TEETH);
            if (second < 0) {
                return false;
            }
            int stone = table.addStone(readKind(), first, second);
            return !readSign('@') || readMark(table, stone, 0) && readMark(table, stone, 1);
        }

        private boolean readMark(Table table, int stone, int wheel) {
            int mark = readDigit(0, table.teethOf(stone, wheel) - 1);
            if (mark < 0) {
                return false;
            }
            table.setMark(stone, wheel, mark);
            return true;
        }

        private int readKind() {
            return readSign('p') ? PAWLED : readSign('s') ? STIFF : readSign('h') ? HEAVY : FREE;
        }

        /** A digit of those from least to most, or NONE. */
        private int readDigit(int least, int most) {
            int digit = place < length ? at(bytes, place) - '0' : NONE;
            if (!isWithin(digit, least, most)) {
                return NONE;
            }
            stepOn();
            return digit;
        }

        private boolean readSign(char sign) {
            if (place >= length || at(bytes, place) != sign) {
                return false;
            }
            stepOn();
            return true;
        }
    }

    /** A row of a LANE, or nothing. */
    private static final class Sheet {
        private final int[] items = new int[MOST_ITEMS];
        private boolean isHeld;
        private int laneHeld;
        private int size;

        boolean isNothing() {
            return !isHeld;
        }

        void holdNew(int lane, int n) {
            isHeld = true;
            laneHeld = lane;
            size = n;
            for (int i = 0; i < MOST_ITEMS; i++) {
                put(items, i, 0);
            }
        }

        /** How many items it had. */
        int holdNothing() {
            isHeld = false;
            return size;
        }

        /** Why n items from one on can't be had of it, taken as a row of a LANE; 0 if they can. */
        int refusalOf(int lane, int from, int n) {
            if (!isHeld) {
                return NULL;
            }
            if (lane != laneHeld) {
                return CAST;
            }
            return from < 0 || from > size - n ? INDEX : 0;
        }

        int itemAt(int i) {
            return at(items, i);
        }

        void setItem(int i, int v) {
            put(items, i, laneHeld == 0 ? (byte) v : laneHeld == 1 ? (short) v : v);
        }
    }
}
