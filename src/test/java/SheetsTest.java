/** Promises 23 to 28: tables told, orders, sheets. */
public final class SheetsTest {
    private static final Due DUE = new Due("SheetsTest");
    private static final int BAD = ToothStones.BAD, NOT = ToothStones.NOT, NONE = ToothStones.NONE;
    private static final int NULL = ToothStones.NULL, CAST = ToothStones.CAST, INDEX = ToothStones.INDEX, SIZE = ToothStones.SIZE;

    public static void main(String[] args) {
        promise23Judged();
        promise23Refusals();
        promise24Orders();
        promise24Rows();
        promise24Refusals();
        promise25Sheet();
        promise26Drop();
        promise27Item();
        promise28Film();
        promise28Refusals();
        DUE.end();
    }

    private static void promise23Judged() {
        ToothStones x = Due.of("33,34,45,56,99p,98");
        for (int lane = 0; lane < 3; lane++) {
            Due.fill(x, lane, lane, 0, 0, 1, 0, 2, 0, 3, 0, 4, 0, 5, 0);
            DUE.is("the first that MAY not", x.judged(lane, lane, 0, 6), 4);
            DUE.is("one less", x.judged(lane, lane, 0, 5), 4);
            DUE.is("all MAY", x.judged(lane, lane, 0, 4), NONE);
            DUE.is("one from on", x.judged(lane, lane, 8, 2), NONE);
            DUE.is("from the middle", x.judged(lane, lane, 6, 2), 1);
            DUE.is("as STONE and FRONT are told", x.judged(lane, lane, 1, 1), NONE);
        }
        Due.fill(x, 0, 2, 1, 1, 0, 1, 1, 0, 3, 0);
        DUE.is("a STONE that came ahead", x.judged(0, 2, 0, 4), 2);
        Due.fill(x, 0, 2, 3, 0, 2, 0, 1, 0);
        DUE.is("by FRONT 0: 6 TEETH to 4", x.judged(0, 2, 0, 3), 1);
        Due.fill(x, 0, 2, 3, 0, 2, 1, 1, 1);
        DUE.is("by FRONT 1: 6 to 5, 4 to 4", x.judged(0, 2, 0, 3), NONE);
        x.lay(0, 0);
        x.lay(1, 0);
        x.deal(2, 1);
        x.lay(2, 0);
        x.lay(3, 1);
        long marks = Due.allMarks(x);
        Due.fill(x, 0, 0, 3, 0, 2, 1, 1, 1);
        DUE.is("STONES laid, too, from an empty TRAIN on", x.judged(0, 0, 0, 3), NONE);
        DUE.is("it turns nothing", Due.allMarks(x), marks);
        DUE.is("it lays nothing", 100 * x.count(1) + 10 * x.count(2) + x.told(3, 6), 401);
        ToothStones ring = Due.of("33,33,33");
        ring.lay(0, 0);
        ring.lay(1, 0);
        ring.lay(2, 0);
        ring.shut(true);
        Due.fill(ring, 0, 0, 2, 0, 1, 0, 0, 0);
        DUE.is("THE RING does not matter", ring.judged(0, 0, 0, 3), NONE);
        DUE.is("THE RING stays", ring.count(7), 1);
        Due.fill(ring, 0, 0, 2, 0, 1, 0, 0, 0, 2, 0, 0, 0, 0, 0, 0, 0, 0, 0, 0, 0, 0, 0, 0, 0, 0, 0);
        DUE.is("twelve LAYS", ring.judged(0, 0, 0, 12), 3);
    }

    private static void promise23Refusals() {
        ToothStones x = Due.of("33,33");
        Due.fill(x, 0, 1, 0, 0, 1, 0, 0, 0);
        DUE.is("SHEET -1", x.judged(-1, 1, 0, 1), BAD);
        DUE.is("SHEET 4", x.judged(4, 1, 0, 1), BAD);
        DUE.is("LANE -1", x.judged(0, -1, 0, 1), BAD);
        DUE.is("LANE 3", x.judged(0, 3, 0, 1), BAD);
        DUE.is("n 0", x.judged(0, 1, 0, 0), BAD);
        DUE.is("n 13", x.judged(0, 1, 0, 13), BAD);
        DUE.is("BAD ahead of NULL", x.judged(1, 1, 0, 13), BAD);
        DUE.is("NULL", x.judged(1, 1, -1, 1), NULL);
        DUE.is("CAST", x.judged(0, 2, -1, 1), CAST);
        DUE.is("INDEX below", x.judged(0, 1, -1, 1), INDEX);
        DUE.is("INDEX above", x.judged(0, 1, 5, 1), INDEX);
        DUE.is("INDEX of many", x.judged(0, 1, 0, 4), INDEX);
        DUE.is("INDEX far above", x.judged(0, 1, Integer.MAX_VALUE, 12), INDEX);
        DUE.is("INDEX far below", x.judged(0, 1, Integer.MIN_VALUE, 12), INDEX);
        DUE.is("the last items", x.judged(0, 1, 4, 1), NONE);
        Due.fill(x, 0, 1, 0, 0, 0, 0, 2, 0);
        DUE.is("no STONE, ahead of any LAY", x.judged(0, 1, 0, 3), NOT);
        DUE.is("it is not of those told", x.judged(0, 1, 0, 2), 1);
        Due.fill(x, 0, 1, 0, 0, 0, 2, 1, 0);
        DUE.is("no FRONT", x.judged(0, 1, 0, 3), NOT);
        Due.fill(x, 0, 1, -1, 0, 0, -1);
        DUE.is("STONE -1", x.judged(0, 1, 0, 1), NOT);
        DUE.is("FRONT -1", x.judged(0, 1, 2, 1), NOT);
        DUE.is("INDEX ahead of NOT", x.judged(0, 1, 0, 3), INDEX);
    }

    private static void promise24Orders() {
        ToothStones x = Due.of("33,33,33@12,99");
        // row 0 1: the first one's FRONT 0 goes back, its BACK forward
        Due.fill(x, 0, 2, 2, 1, 0, 0);
        orders("the first ahead", x, 3, 0, 2, 0, 1, 0, 1);
        Due.fill(x, 0, 1, 0, 0, 2, 1);
        orders("the second ahead", x, 3, 0, 1, 0, 1, 1, 0);
        Due.fill(x, 0, 0, 0, 0, 2, 1, 1, 2);
        orders("MARKS as they are now, from one on", x, 5, 0, 0, 2, 1, 0, 2);
        DUE.is("it turns nothing", Due.allMarks(x), 12_00);
        DUE.is("it lays nothing", x.count(1), 0);
        Due.fill(x, 0, 0, 0, 0, 0, 0);
        DUE.is("MARKS that no row brings", x.orders(3, 0, 0, 0, -1), NONE);
        DUE.is("nor a first", x.orders(3, 0, 0, 0, 0), NONE);
        Due.fill(x, 0, 0, 0, 0, 2, 2);
        DUE.is("a MARK of one WHEEL alone", x.orders(3, 0, 0, 0, -1), NONE);
        Due.fill(x, 0, 0, 0, 0, 1, 1);
        DUE.is("a MARK of the other alone", x.orders(3, 0, 0, 0, -1), NONE);
        Due.fill(x, 0, 2, 3, 1, 0, 0);
        DUE.is("a MARK that can't be", x.orders(3, 0, 2, 0, -1), NONE);
        Due.fill(x, 0, 0, 2, 1, 0, 0);
        DUE.is("none MAY be laid", x.orders(9, 0, 0, 0, -1), NONE);
        x.lay(1, 0);
        x.lay(0, 0);
        x.lay(2, 0);
        x.shut(true);
        long marks = Due.allMarks(x);
        Due.fill(x, 0, 0, 0, 2, 0, 0);
        DUE.is("MARKS of 0 and 1", marks / 10000, 21_12);
        Due.fill(x, 0, 0, 1, 2, 1, 2);
        orders("STONES laid, too", x, 3, 0, 0, 0, 1, 0, 1);
        DUE.is("TRAIN and RING stay", 10 * x.count(1) + x.count(7), 31);
        DUE.is("MARKS stay", Due.allMarks(x), marks);
    }

    private static void orders(String call, ToothStones x, int set, int sheet, int lane, int from, int many, int... first) {
        DUE.is(call + ": how many", x.orders(set, sheet, lane, from, -1), many);
        for (int k = 0; k < first.length; k++) {
            DUE.is(call + ": " + k + " of the first", x.orders(set, sheet, lane, from, k), first[k]);
        }
        DUE.is(call + ": a k that it has not", x.orders(set, sheet, lane, from, first.length), BAD);
    }

    private static void promise24Rows() {
        ToothStones heavy = Due.of("33h,33h,33h,33h,33h");
        heavy.sheet(3, 0, 24);
        orders("all rows of five, LOCKED", heavy, 31, 3, 0, 14, 120, 0, 1, 2, 3, 4);
        orders("all rows of four, LOCKED", heavy, 30, 3, 0, 0, 24, 1, 2, 3, 4);
        orders("all rows of three, LOCKED", heavy, 21, 3, 0, 0, 6, 0, 2, 4);
        ToothStones chain = Due.of("89,67,45,56,78");
        chain.sheet(0, 2, 10);
        DUE.is("one row, MARKS turned", chain.orders(31, 0, 2, 0, -1), NONE);
        int[] row = {2, 3, 1, 4, 0};
        for (int stone : row) {
            chain.lay(stone, 0);
        }
        chain.film(0, 2, 0);
        int[] marks = new int[10];
        for (int stone = 0; stone < 5; stone++) {
            marks[2 * stone] = chain.told(stone, 3);
            marks[2 * stone + 1] = chain.told(stone, 4);
        }
        Due.fill(chain, 1, 1, marks);
        chain.take(5);
        for (int stone = 0; stone < 5; stone++) {
            chain.mark(stone, 0, 0);
            chain.mark(stone, 1, 0);
        }
        orders("the chain", chain, 31, 1, 1, 0, 1, row);
        ToothStones front = Due.of("39,44");
        front.sheet(0, 0, 4);
        front.item(0, 0, 0, 2);
        front.item(0, 0, 1, 1);
        DUE.is("FRONT 0 alone: 9 to 4, 4 to 3", front.orders(3, 0, 0, 0, -1), NONE);
        Due.fill(front, 0, 0, 0, 0, 3, 1);
        orders("FRONT 0 alone", front, 3, 0, 0, 0, 1, 1, 0);
    }

    private static void promise24Refusals() {
        ToothStones x = Due.of("33,33,33,33,33,33");
        x.sheet(0, 1, 10);
        DUE.is("set 0", x.orders(0, 0, 1, 0, -1), BAD);
        DUE.is("set of 1", x.orders(4, 0, 1, 0, -1), BAD);
        DUE.is("set of 6", x.orders(63, 0, 1, 0, -1), BAD);
        DUE.is("no STONE 6", x.orders(65, 0, 1, 0, -1), BAD);
        DUE.is("set below 0", x.orders(Integer.MIN_VALUE + 1, 0, 1, 0, -1), BAD);
        DUE.is("set -1", x.orders(-1, 0, 1, 0, -1), BAD);
        DUE.is("SHEET -1", x.orders(3, -1, 1, 0, -1), BAD);
        DUE.is("SHEET 4", x.orders(3, 4, 1, 0, -1), BAD);
        DUE.is("LANE -1", x.orders(3, 0, -1, 0, -1), BAD);
        DUE.is("LANE 3", x.orders(3, 0, 3, 0, -1), BAD);
        DUE.is("k -2", x.orders(3, 0, 1, 0, -2), BAD);
        DUE.is("k 2 of 2", x.orders(3, 0, 1, 0, 2), BAD);
        DUE.is("k 5 of 5", x.orders(31, 0, 1, 0, 5), BAD);
        DUE.is("BAD ahead of NULL", x.orders(3, 1, 1, 0, 2), BAD);
        DUE.is("NULL", x.orders(3, 1, 1, -1, 0), NULL);
        DUE.is("CAST", x.orders(3, 0, 0, -1, 0), CAST);
        DUE.is("INDEX below", x.orders(3, 0, 1, -1, 0), INDEX);
        DUE.is("INDEX above", x.orders(3, 0, 1, 7, 0), INDEX);
        DUE.is("INDEX of many", x.orders(31, 0, 1, 1, 0), INDEX);
        DUE.is("INDEX far above", x.orders(3, 0, 1, Integer.MAX_VALUE, 0), INDEX);
        DUE.is("the last items", x.orders(3, 0, 1, 6, 0), NONE);
        DUE.is("NONE of five", x.orders(31, 0, 1, 0, 4), NONE);
    }

    private static void promise25Sheet() {
        ToothStones x = Due.of("33,33");
        DUE.is("sheet(0, 0, 24)", x.sheet(0, 0, 24), 24);
        DUE.is("sheet(3, 2, 0)", x.sheet(3, 2, 0), 0);
        DUE.is("sheet(0, 0, 25)", x.sheet(0, 0, 25), BAD);
        DUE.is("sheet(0, 0, -1)", x.sheet(0, 0, -1), SIZE);
        DUE.is("sheet(0, 0, lowest)", x.sheet(0, 0, Integer.MIN_VALUE), SIZE);
        DUE.is("sheet(-1, 0, 1)", x.sheet(-1, 0, 1), BAD);
        DUE.is("BAD ahead of SIZE", x.sheet(4, 0, -1), BAD);
        DUE.is("sheet(0, -1, 1)", x.sheet(0, -1, 1), BAD);
        DUE.is("BAD LANE ahead of SIZE", x.sheet(0, 3, -1), BAD);
        DUE.is("refused, it holds what it held", x.drop(0), 24);
        DUE.is("a row of none", x.drop(3), 0);
        Due.fill(x, 0, 0, 1, 0, 0, 0);
        DUE.is("a row of its own", x.judged(0, 0, 0, 2), NONE);
        x.sheet(0, 0, 4);
        DUE.is("a new row, all 0", x.judged(0, 0, 0, 2), 1);
        x.sheet(0, 1, 2);
        DUE.is("of another LANE", x.judged(0, 0, 0, 1), CAST);
        DUE.is("of fewer items", x.judged(0, 1, 0, 2), INDEX);
    }

    private static void promise26Drop() {
        ToothStones x = new ToothStones();
        DUE.is("drop(-1)", x.drop(-1), BAD);
        DUE.is("drop(4)", x.drop(4), BAD);
        DUE.is("drop(0)", x.drop(0), NULL);
        x.sheet(0, 1, 7);
        x.sheet(1, 1, 9);
        DUE.is("drop(0) of 7", x.drop(0), 7);
        DUE.is("drop(0) again", x.drop(0), NULL);
        DUE.is("it holds nothing", x.item(0, 1, 0, 0), NULL);
        DUE.is("the others stay", x.drop(1), 9);
    }

    private static void promise27Item() {
        ToothStones x = Due.of("33,33");
        x.sheet(0, 0, 4);
        x.sheet(1, 1, 4);
        x.sheet(2, 2, 4);
        int[] cut = {256, 65536, 0};
        int[] whole = {-255, -65535, 1};
        for (int lane = 0; lane < 3; lane++) {
            DUE.is("cut to 0", x.item(lane, lane, 2, cut[lane]), 1);
            DUE.is("LANE " + lane + ", STONE 0 twice", x.judged(lane, lane, 0, 2), 1);
            DUE.is("cut to 1", x.item(lane, lane, 2, whole[lane]), 1);
            DUE.is("LANE " + lane + ", STONE 0, STONE 1", x.judged(lane, lane, 0, 2), NONE);
            DUE.is("a sign", x.item(lane, lane, 2, -1), 1);
            DUE.is("LANE " + lane + ", no STONE", x.judged(lane, lane, 0, 2), NOT);
            DUE.is("the last item", x.item(lane, lane, 3, 1), 1);
            DUE.is("one too many", x.item(lane, lane, 4, 1), INDEX);
            DUE.is("below 0", x.item(lane, lane, -1, 1), INDEX);
            DUE.is("far above", x.item(lane, lane, Integer.MAX_VALUE, 1), INDEX);
            DUE.is("of another LANE", x.item(lane, (lane + 1) % 3, -1, 1), CAST);
            DUE.is("LANE -1", x.item(lane, -1, 0, 1), BAD);
            DUE.is("LANE 3", x.item(lane, 3, 0, 1), BAD);
        }
        x.item(1, 1, 2, 256);
        DUE.is("shorts hold 256", x.judged(1, 1, 0, 2), NOT);
        x.item(2, 2, 2, 65536);
        DUE.is("ints hold 65536", x.judged(2, 2, 0, 2), NOT);
        DUE.is("of nothing", x.item(3, 0, 0, 0), NULL);
        DUE.is("BAD ahead of NULL", x.item(3, 3, 0, 0), BAD);
        DUE.is("SHEET -1", x.item(-1, 0, 0, 0), BAD);
        DUE.is("SHEET 4", x.item(4, 0, 0, 0), BAD);
        x.sheet(3, 0, 0);
        DUE.is("of a row of none", x.item(3, 0, 0, 0), INDEX);
    }

    private static void promise28Film() {
        ToothStones x = Due.of("34@11,44s@02,33@02,33");
        x.lay(1, 0);
        x.lay(0, 1);
        x.lay(2, 0);
        // FRONT of 0 is its WHEEL 1; THE TRAIN is 1, 0, 2
        for (int lane = 0; lane < 3; lane++) {
            Due.fill(x, lane, lane, 8, 8, 8, 8, 8, 8, 8, 8);
            DUE.is("film", x.film(lane, lane, 1), 6);
        }
        DUE.is("MARKS of STONES", Due.allMarks(x), 20_20_02_00);
        int[] due = {8, 2, 0, 0, 2, 0, 2, 8};
        x.take(3);
        Due.read(x, "99h,99h");
        for (int lane = 0; lane < 3; lane++) {
            for (int from = 0; from <= 4; from += 2) {
                holds(x, lane, from, due);
            }
        }
    }

    /** By ORDERS of two STONES that are LOCKED: both rows bring the told MARKS if these are the MARKS now. */
    private static void holds(ToothStones x, int sheet, int from, int[] due) {
        for (int i = 0; i < 4; i++) {
            x.mark(i / 2, i % 2, due[from + i]);
        }
        DUE.is("SHEET " + sheet + ", four items from " + from, x.orders(3, sheet, sheet, from, -1), 2);
        for (int i = 0; i < 4; i++) {
            x.mark(i / 2, i % 2, (due[from + i] + 1) % 9);
            DUE.is("SHEET " + sheet + ", item " + (from + i) + " is no other", x.orders(3, sheet, sheet, from, -1), NONE);
            x.mark(i / 2, i % 2, due[from + i]);
        }
    }

    private static void promise28Refusals() {
        ToothStones x = Due.of("33,33");
        DUE.is("SHEET -1", x.film(-1, 0, 0), BAD);
        DUE.is("SHEET 4", x.film(4, 0, 0), BAD);
        DUE.is("LANE -1", x.film(0, -1, 0), BAD);
        DUE.is("BAD ahead of NULL", x.film(0, 3, 0), BAD);
        DUE.is("NULL", x.film(0, 0, -1), NULL);
        x.sheet(0, 0, 5);
        DUE.is("CAST", x.film(0, 1, -1), CAST);
        DUE.is("of none, from 0", x.film(0, 0, 0), 0);
        DUE.is("of none, from the end", x.film(0, 0, 5), 0);
        DUE.is("of none, from below 0", x.film(0, 0, -1), INDEX);
        DUE.is("of none, from above", x.film(0, 0, 6), INDEX);
        x.lay(0, 0);
        x.lay(1, 0);
        DUE.is("from 1", x.film(0, 0, 1), 4);
        DUE.is("from 2", x.film(0, 0, 2), INDEX);
        DUE.is("from -1", x.film(0, 0, -1), INDEX);
        DUE.is("far above", x.film(0, 0, Integer.MAX_VALUE), INDEX);
        x.sheet(0, 0, 0);
        DUE.is("a row of none", x.film(0, 0, 0), INDEX);
    }
}
