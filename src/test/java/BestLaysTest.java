/** Promises 17 to 22: the best lay, points, matches, the draw, images. */
public final class BestLaysTest {
    private static final Due DUE = new Due("BestLaysTest");
    private static final int BAD = ToothStones.BAD, NOT = ToothStones.NOT, NONE = ToothStones.NONE;

    public static void main(String[] args) {
        promise17Best();
        promise17Answers();
        promise17Refusals();
        promise18Point();
        promise18Refusals();
        promise19Match();
        promise19Passes();
        promise19Scores();
        promise19Refusals();
        promise20Seed();
        promise21And22Images();
        promise22Sheets();
        DUE.end();
    }

    /** An object with the STONES of a text, dealt as told: a digit of the HAND for each, or '-' for THE HEAP. */
    private static ToothStones dealt(String text, String hands) {
        ToothStones x = Due.of(text);
        for (int stone = 0; stone < hands.length(); stone++) {
            if (hands.charAt(stone) != '-') {
                x.deal(stone, hands.charAt(stone) - '0');
            }
        }
        return x;
    }

    private static void best(String call, ToothStones x, int hand, int stone, int front, int worth) {
        DUE.is(call + ", STONE", x.best(hand, 0), stone);
        DUE.is(call + ", FRONT", x.best(hand, 1), front);
        DUE.is(call + ", worth", x.best(hand, 2), worth + 100);
    }

    private static void promise17Best() {
        best("like ones", dealt("33,33", "00"), 0, 0, 0, 0);
        ToothStones x = dealt("33@12,33@01,33,33h,55", "-0000");
        x.lay(0, 0);
        long marks = Due.allMarks(x);
        best("the most", x, 0, 3, 0, 3);
        DUE.is("MARKS stay", Due.allMarks(x), marks);
        DUE.is("TRAIN and SCORES stay", 100 * x.count(1) + 10 * x.count(4) + x.count(5), 100);
        DUE.is("HANDS stay", x.count(2), 4);
        x.deal(3, -1);
        best("of the HAND alone", x, 0, 2, 0, 2);
        ToothStones fit = dealt("34,93,35,44", "-000");
        fit.lay(0, 0);
        best("by the FRONT that MAY be", fit, 0, 1, 1, 0);
        fit.deal(1, -1);
        fit.deal(2, 1);
        best("the other HAND's", fit, 1, 2, 0, 0);
    }

    private static void promise17Answers() {
        best("the other would score behind FRONT 0", dealt("33@12,33@11,33", "001"), 0, 0, 1, 0);
        best("HAND 1 looks at HAND 0", dealt("33@12,33@11,33", "110"), 1, 0, 1, 0);
        best("THE HEAP does not answer", dealt("33@12,33@11,33", "00-"), 0, 0, 0, 0);
        best("one's own do not answer", dealt("33@12,33@11,33", "000"), 0, 0, 0, 0);
        best("it can't be helped", dealt("33s@22,33", "01"), 0, 0, 0, -2);
        best("the greatest answer", dealt("33s@22,33,33h,33", "0111"), 0, 0, 0, -3);
        best("an answer that MAY not be", dealt("33s@22,55,33@11", "011"), 0, 0, 0, 0);
        ToothStones both = dealt("33h,33,33h,33", "-011");
        both.lay(0, 0);
        best("its SCORE less the answer's", both, 0, 1, 0, 3 - 5);
    }

    private static void promise17Refusals() {
        ToothStones x = dealt("33,33,33,33,55", "0----");
        DUE.is("best(-1, 0)", x.best(-1, 0), BAD);
        DUE.is("best(2, 0)", x.best(2, 0), BAD);
        DUE.is("best(0, -1)", x.best(0, -1), BAD);
        DUE.is("best(0, 3)", x.best(0, 3), BAD);
        DUE.is("an empty HAND", x.best(1, 0), NONE);
        x.lay(1, 0);
        x.lay(2, 0);
        x.lay(3, 0);
        x.deal(4, 1);
        DUE.is("none MAY be laid", x.best(1, 2), NONE);
        x.shut(true);
        DUE.is("THE RING is shut", x.best(0, 0), NOT);
        DUE.is("NOT ahead of NONE", x.best(1, 0), NOT);
        DUE.is("BAD ahead of NOT", x.best(2, 0), BAD);
    }

    private static void promise18Point() {
        ToothStones x = Due.of("34,45,45s");
        x.lay(0, 0);
        int[] backward = {0, 3, 2, 1};
        for (int mark = 0; mark < 4; mark++) {
            DUE.is("point(0, " + mark + ")", x.point(0, mark), backward[mark]);
        }
        x.lay(1, 0);
        DUE.is("MARKS", Due.allMarks(x), 21_00_00);
        DUE.is("point(0, 0) then", x.point(0, 0), 1);
        DUE.is("point(1, 1)", x.point(1, 1), 4);
        DUE.is("point(1, 4)", x.point(1, 4), 1);
        x.lay(2, 0);
        DUE.is("STIFF, point(2, 1)", x.point(2, 1), 1);
        DUE.is("STIFF, point(2, 4)", x.point(2, 4), 4);
        long marks = Due.allMarks(x);
        x.crank(x.point(2, 3));
        DUE.is("it points as told", x.told(2, 4), 3);
        x.crank(-3);
        DUE.is("MARKS as they were", Due.allMarks(x), marks);
    }

    private static void promise18Refusals() {
        ToothStones x = Due.of("35,33,33p");
        DUE.is("not laid", x.point(0, 0), BAD);
        x.lay(0, 1);
        DUE.is("point(-1, 0)", x.point(-1, 0), BAD);
        DUE.is("point(3, 0)", x.point(3, 0), BAD);
        DUE.is("point(1, 0)", x.point(1, 0), BAD);
        DUE.is("a MARK below 0", x.point(0, -1), BAD);
        DUE.is("its BACK has 3 TEETH", x.point(0, 3), BAD);
        DUE.is("point(0, 2)", x.point(0, 2), 1);
        x.lay(1, 0);
        x.lay(2, 0);
        DUE.is("LOCKED by a STONE", x.point(0, 2), NOT);
        DUE.is("LOCKED, though it points so", x.point(2, 0), NOT);
        DUE.is("BAD ahead of NOT", x.point(0, 3), BAD);
        ToothStones ring = Due.of("33s,33,33");
        ring.lay(0, 0);
        ring.lay(1, 0);
        ring.lay(2, 0);
        DUE.is("not LOCKED", ring.point(2, 0), 0);
        ring.shut(true);
        DUE.is("LOCKED by an ODD RING", ring.point(2, 0), NOT);
    }

    private static long drawn(long draw) {
        return (draw * 1103515245L + 12345L) % 2147483648L;
    }

    private static void promise19Match() {
        for (int seed : new int[] {1, 0, 2, 99, 65536, 123456789, Integer.MAX_VALUE}) {
            ToothStones x = dealt("33,33,33,33,33,33", "010101");
            x.seed(seed);
            DUE.is("match(6)", x.match(6), 6);
            long draw = seed;
            int[][] left = {{0, 2, 4}, {1, 3, 5}};
            for (int turn = 0; turn < 6; turn++) {
                int[] hand = left[turn % 2];
                draw = drawn(draw);
                int ahead = (int) (draw / 65536 % (2 * hand.length));
                int stone = hand[ahead / 2];
                DUE.is("seed " + seed + ", place of " + stone, x.told(stone, 5), turn);
                DUE.is("seed " + seed + ", FRONT of " + stone, x.told(stone, 6), ahead % 2);
                int[] fewer = new int[hand.length - 1];
                for (int i = 0, next = 0; i < hand.length; i++) {
                    if (hand[i] != stone) {
                        fewer[next++] = hand[i];
                    }
                }
                left[turn % 2] = fewer;
            }
            DUE.is("seed " + seed + ", THE DRAW then", x.seed(1), draw);
        }
    }

    private static void promise19Passes() {
        ToothStones x = dealt("33,34,99,33", "1-01");
        DUE.is("HAND 0 begins", x.match(1), 1);
        DUE.is("STONE 2 is laid", x.told(2, 5), 0);
        DUE.is("none MAY be laid", x.match(24), 0);
        DUE.is("who passes draws nothing", x.seed(1), drawn(1));
        x.take(1);
        DUE.is("HAND 0 passes", x.match(1), 0);
        DUE.is("HAND 1 lays behind it", x.match(2), 1);
        DUE.is("then two turns, of HAND 1 one", x.match(2), 1);
        DUE.is("a LAY alone is drawn, too", x.seed(1), drawn(drawn(1)));
        DUE.is("THE HEAP's stay", x.told(1, 5), NONE);
        ToothStones whole = dealt("33,33,33,33,33,33,33,33", "00000001");
        DUE.is("all turns, passes too", whole.match(13), 8);
        DUE.is("fewer turns", dealt("33,33,33,33", "0000").match(4), 2);
        ToothStones fit = dealt("33,99,39", "-00");
        fit.lay(0, 0);
        DUE.is("of those that MAY be", fit.match(3), 2);
        DUE.is("by the FRONT that MAY be", 10 * fit.told(2, 6) + fit.told(2, 5), 1);
    }

    private static void promise19Scores() {
        ToothStones x = dealt("33h,33,33", "-01");
        x.lay(0, 0);
        DUE.is("match(2)", x.match(2), 2);
        DUE.is("SCORES of both HANDS", 10 * x.count(4) + x.count(5), 34);
        ToothStones heavy = dealt("33h,33,33,33", "0101");
        heavy.deal(2, -1);
        DUE.is("match(24)", heavy.match(24), 3);
        DUE.is("HAND 0", heavy.count(4), 0);
        DUE.is("HAND 1", heavy.count(5), 3 + 4);
    }

    private static void promise19Refusals() {
        ToothStones x = dealt("33,33,33,33", "0000");
        DUE.is("match(0)", x.match(0), BAD);
        DUE.is("match(-1)", x.match(-1), BAD);
        DUE.is("match(25)", x.match(25), BAD);
        DUE.is("match(5)", x.match(5), 3);
        DUE.is("shut", x.shut(true), 0);
        DUE.is("THE RING is shut", x.match(1), NOT);
        DUE.is("BAD ahead of NOT", x.match(0), BAD);
        DUE.is("nothing was laid", x.count(1), 3);
    }

    private static void promise20Seed() {
        ToothStones x = new ToothStones();
        DUE.is("1 at first", x.seed(0), 1);
        DUE.is("0", x.seed(Integer.MAX_VALUE), 0);
        DUE.is("-1", x.seed(-1), BAD);
        DUE.is("the lowest", x.seed(Integer.MIN_VALUE), BAD);
        DUE.is("the highest", x.seed(7), Integer.MAX_VALUE);
        DUE.is("7", x.seed(7), 7);
    }

    private static void promise21And22Images() {
        ToothStones x = dealt("33@12,33,33h,45,54@31", "01-01");
        DUE.is("no IMAGE", x.restore(), NONE);
        x.lay(0, 0);
        x.lay(1, 0);
        x.lay(2, 1);
        x.shut(true);
        x.seed(4711);
        long marks = Due.allMarks(x);
        DUE.is("image()", x.image(), 1);
        for (int time = 0; time < 2; time++) {
            x.shut(false);
            x.take(2);
            x.deal(3, 1);
            x.deal(4, -1);
            x.mark(3, 0, 2);
            x.lay(2, 0);
            x.seed(time);
            if (time == 0) {
                x.stone(2, 9, 9);
            } else {
                Due.read(x, "99s@88");
            }
            DUE.is("restore()", x.restore(), 1);
            int[] counts = {5, 3, 1, 1, 0, 2, x.count(6), 1};
            for (int what = 0; what < counts.length; what++) {
                DUE.is("count(" + what + ")", x.count(what), counts[what]);
            }
            int[][] due = {{0, 3, 3, 0, 0}, {0, 3, 3, 1, 0}, {3, 3, 3, 2, 1}, {0, 4, 5, NONE, NONE}, {0, 5, 4, NONE, NONE}};
            for (int stone = 0; stone < due.length; stone++) {
                int[] what = {0, 1, 2, 5, 6};
                for (int i = 0; i < what.length; i++) {
                    DUE.is("told(" + stone + ", " + what[i] + ")", x.told(stone, what[i]), due[stone][i]);
                }
            }
            DUE.is("HANDS", 10 * x.told(3, 7) + x.told(4, 7), 1);
            DUE.is("MARKS", Due.allMarks(x), marks);
            DUE.is("THE DRAW", x.seed(4711), 4711);
        }
        x.take(3);
        x.image();
        x.lay(3, 0);
        x.restore();
        DUE.is("the IMAGE is the newest", x.count(1), 0);
        DUE.is("SCORES are kept", x.count(5), 2);
    }

    private static void promise22Sheets() {
        ToothStones x = Due.of("33,33");
        Due.fill(x, 1, 1, 0, 0);
        Due.typed(x, "45,");
        x.image();
        Due.fill(x, 1, 2, 0, 0, 0);
        x.sheet(0, 0, 5);
        Due.typed(x, "56");
        x.restore();
        DUE.is("SHEETS stay", x.drop(1), 3);
        DUE.is("a new SHEET stays", x.drop(0), 5);
        DUE.is("THE TAPE stays", x.stones(), 2);
        DUE.is("its STONES", 10 * x.told(1, 1) + x.told(1, 2), 56);
    }
}
