/** Promises 9 to 16: what may be laid, lays, the ring, what is locked, cranks. */
public final class LaysCranksTest {
    private static final Due DUE = new Due("LaysCranksTest");
    private static final int BAD = ToothStones.BAD, NOT = ToothStones.NOT, NONE = ToothStones.NONE;

    public static void main(String[] args) {
        promise9May();
        promise10Refusals();
        promise10Turns();
        promise10Scores();
        promise11Take();
        promise12Shut();
        promise13Locked();
        promise14Crank();
        promise14Refusals();
        promise15Around();
        promise16Up();
        DUE.end();
    }

    /** An object with the STONES of a text, laid one behind the other by FRONT 0, and MARKS as told there. */
    private static ToothStones laid(String text) {
        ToothStones x = Due.of(text);
        int stones = x.count(0);
        int[] marks = new int[stones];
        for (int stone = 0; stone < stones; stone++) {
            marks[stone] = Due.marks(x, stone);
        }
        for (int stone = 0; stone < stones; stone++) {
            x.lay(stone, 0);
        }
        for (int stone = 0; stone < stones; stone++) {
            x.mark(stone, 0, marks[stone] / 10);
            x.mark(stone, 1, marks[stone] % 10);
        }
        DUE.is("laid of " + text, x.count(1), stones);
        return x;
    }

    private static void promise9May() {
        ToothStones x = Due.of("34,55,56,43,33,99");
        for (int stone = 0; stone < 6; stone++) {
            DUE.is("the first, may(" + stone + ", 0)", x.may(stone, 0), 1);
            DUE.is("the first, may(" + stone + ", 1)", x.may(stone, 1), 1);
        }
        x.deal(2, 0);
        x.lay(0, 0);
        int[][] due = {{NOT, NOT}, {1, 1}, {1, 0}, {1, 1}, {1, 1}, {0, 0}};
        for (int stone = 0; stone < 6; stone++) {
            DUE.is("behind 4 TEETH, may(" + stone + ", 0)", x.may(stone, 0), due[stone][0]);
            DUE.is("behind 4 TEETH, may(" + stone + ", 1)", x.may(stone, 1), due[stone][1]);
        }
        DUE.is("may(-1, 0)", x.may(-1, 0), BAD);
        DUE.is("may(6, 0)", x.may(6, 0), BAD);
        DUE.is("BAD ahead of NOT", x.may(0, 2), BAD);
        DUE.is("may(1, -1)", x.may(1, -1), BAD);
        DUE.is("may(1, 2)", x.may(1, 2), BAD);
        x.lay(3, 0);
        x.lay(4, 0);
        x.shut(true);
        DUE.is("THE RING is shut", x.may(1, 0), NOT);
        DUE.is("BAD ahead of THE RING", x.may(1, 2), BAD);
        x.shut(false);
        DUE.is("behind 3 TEETH", x.may(1, 0), 0);
        DUE.is("by its other WHEEL behind 3 TEETH", Due.of("33,43").may(1, 0), 1);
    }

    private static void promise10Refusals() {
        ToothStones x = Due.of("33,33,33,33,55");
        DUE.is("lay(-1, 0)", x.lay(-1, 0), BAD);
        DUE.is("lay(5, 0)", x.lay(5, 0), BAD);
        DUE.is("lay(0, -1)", x.lay(0, -1), BAD);
        DUE.is("lay(0, 2)", x.lay(0, 2), BAD);
        x.deal(4, 0);
        x.lay(0, 0);
        DUE.is("it is laid", x.lay(0, 1), NOT);
        DUE.is("BAD ahead of NOT", x.lay(0, 2), BAD);
        DUE.is("it MAY not", x.lay(4, 0), NONE);
        DUE.is("what is refused turns nothing", Due.marks(x, 0), 0);
        DUE.is("what is refused stays in its HAND", x.told(4, 7), 0);
        x.lay(1, 0);
        x.lay(2, 0);
        x.shut(true);
        DUE.is("THE RING is shut", x.lay(3, 0), NOT);
        DUE.is("NOT ahead of NONE", x.lay(4, 0), NOT);
        DUE.is("laid then", x.count(1), 3);
    }

    private static void promise10Turns() {
        ToothStones x = Due.of("34,45,56@12,65");
        x.lay(0, 0);
        DUE.is("one alone does not turn", Due.allMarks(x), 1200);
        x.lay(1, 0);
        DUE.is("two", Due.allMarks(x), 21_00_12_00);
        x.lay(2, 0);
        DUE.is("three", Due.allMarks(x), 12_31_12_00);
        x.lay(3, 1);
        DUE.is("FRONT of the last", x.told(3, 6), 1);
        DUE.is("four, as the last BACK alone is turned forward", Due.allMarks(x), 3_22_03_00);
        ToothStones stiff = Due.of("33s,33,33");
        stiff.lay(0, 0);
        stiff.lay(1, 0);
        DUE.is("a STIFF one turns as one", Due.allMarks(stiff), 11_00_00);
        stiff.lay(2, 0);
        DUE.is("a STIFF one ahead", Due.allMarks(stiff), 22_21_00);
        ToothStones front = Due.of("34,33");
        front.lay(0, 1);
        front.lay(1, 0);
        DUE.is("by FRONT 1", Due.allMarks(front), 13_00);
        ToothStones pawled = Due.of("33,33p,33,33");
        pawled.lay(0, 0);
        pawled.lay(1, 0);
        DUE.is("the PAWLED one is not of those that turn yet", Due.allMarks(pawled), 21_00_00_00);
        pawled.lay(2, 0);
        pawled.lay(3, 0);
        DUE.is("LOCKED: nothing turns, the STONE is laid", Due.allMarks(pawled), 21_00_00_00);
        DUE.is("laid then", pawled.count(1), 4);
        ToothStones heavy = Due.of("33h,33,33");
        heavy.lay(0, 1);
        heavy.lay(1, 0);
        heavy.lay(2, 0);
        DUE.is("LOCKED by a HEAVY one", Due.allMarks(heavy), 0);
    }

    private static void promise10Scores() {
        ToothStones one = Due.of("33,33");
        one.deal(0, 0);
        DUE.is("one STONE", one.lay(0, 0), 0);
        DUE.is("not all UP", one.lay(1, 0), 0);
        ToothStones two = Due.of("33@12,33,33@01,33@00");
        two.deal(1, 1);
        two.lay(0, 0);
        DUE.is("two STONES", two.lay(1, 0), 2);
        DUE.is("for HAND 1", 10 * two.count(4) + two.count(5), 2);
        ToothStones late = Due.of("33@12,33@01");
        late.lay(0, 0);
        DUE.is("the new one is not UP", late.lay(1, 0), 0);
        ToothStones heavy = Due.of("33h,33,33h,33@10");
        heavy.deal(1, 0);
        heavy.deal(3, 0);
        heavy.lay(0, 0);
        DUE.is("HEAVY ones twice", heavy.lay(1, 0), 3);
        DUE.is("of THE HEAP's for nobody", heavy.lay(2, 0), 5);
        DUE.is("a MARK not UP", heavy.lay(3, 0), 0);
        DUE.is("for HAND 0", 10 * heavy.count(4) + heavy.count(5), 30);
        heavy.take(2);
        heavy.deal(2, 0);
        DUE.is("again, for HAND 0", heavy.lay(2, 1), 5);
        DUE.is("SCORES add", 10 * heavy.count(4) + heavy.count(5), 80);
    }

    private static void promise11Take() {
        ToothStones x = Due.of("33,34,43,33");
        x.deal(2, 1);
        DUE.is("of no TRAIN", x.take(1), NOT);
        for (int stone = 0; stone < 4; stone++) {
            x.lay(stone, 0);
        }
        long marks = Due.allMarks(x);
        DUE.is("take(0)", x.take(0), BAD);
        DUE.is("take(-1)", x.take(-1), BAD);
        DUE.is("take(13)", x.take(13), BAD);
        DUE.is("take(5)", x.take(5), NOT);
        DUE.is("take(12)", x.take(12), NOT);
        x.shut(true);
        DUE.is("refused, THE RING stays", x.take(5) == NOT ? x.count(7) : -1, 1);
        DUE.is("take(2)", x.take(2), 2);
        DUE.is("THE RING opens", x.count(7), 0);
        DUE.is("MARKS stay", Due.allMarks(x), marks);
        for (int stone = 2; stone < 4; stone++) {
            for (int what = 5; what < 8; what++) {
                DUE.is("told(" + stone + ", " + what + ")", x.told(stone, what), NONE);
            }
        }
        DUE.is("the others lie", 10 * x.told(0, 5) + x.told(1, 5), 1);
        DUE.is("the last BACK has 4 TEETH again", x.may(2, 0), 1);
        DUE.is("take(2) again", x.take(2), 0);
        DUE.is("none lies", x.count(1), 0);
    }

    private static void promise12Shut() {
        ToothStones x = laid("34,45,54");
        DUE.is("shut(false) of an open one", x.shut(false), 0);
        DUE.is("shut(true), 3 and 4 TEETH", x.shut(true), 0);
        DUE.is("shut(true) again", x.shut(true), 1);
        DUE.is("shut(false)", x.shut(false), 1);
        DUE.is("open", x.count(7), 0);
        x.take(1);
        DUE.is("of two STONES", x.shut(true), NOT);
        DUE.is("shut(false) of two STONES", x.shut(false), 0);
        DUE.is("3 and 3", laid("33,33,33").shut(true), 0);
        DUE.is("4 and 3", laid("43,33,33").shut(true), 0);
        DUE.is("3 and 5", laid("33,34,45").shut(true), NOT);
        DUE.is("5 and 3", laid("54,43,33").shut(true), NOT);
        DUE.is("no TRAIN", new ToothStones().shut(true), NOT);
        DUE.is("no TRAIN, open", new ToothStones().shut(false), 0);
        ToothStones front = Due.of("39,33,33");
        front.lay(0, 1);
        front.lay(1, 0);
        front.lay(2, 0);
        DUE.is("9 and 3, by FRONT 1", front.shut(true), NOT);
    }

    private static void promise13Locked() {
        DUE.is("no TRAIN", Due.of("33").locked(), NONE);
        DUE.is("FREE", laid("33").locked(), 0);
        DUE.is("PAWLED", laid("33p").locked(), 2);
        DUE.is("STIFF", laid("33s,33s").locked(), 0);
        DUE.is("the last of two", laid("33,33p,33h,33").locked(), 2 + 2);
        ToothStones x = Due.of("33h,33p,33");
        x.lay(1, 0);
        x.lay(0, 1);
        x.lay(2, 0);
        DUE.is("the last of THE TRAIN, not by number", x.locked(), 2);
        ring("33,33,33", 0);
        ring("33,33,33,33", 0);
        ring("33s,33,33", 1);
        ring("33,33s,33s,33", 0);
        ring("33,33s,33s,33s", 1);
        ring("33p,33s,33", 1);
        ring("33,33p,33", 3);
        ToothStones open = laid("33s,33,33");
        DUE.is("not yet a RING", open.locked(), 0);
        open.shut(true);
        open.shut(false);
        DUE.is("no RING again", open.locked(), 0);
        open.shut(true);
        open.take(1);
        DUE.is("no RING behind take", open.locked(), 0);
    }

    private static void ring(String text, int due) {
        ToothStones x = laid(text);
        x.shut(true);
        DUE.is("locked() of the RING " + text, x.locked(), due);
    }

    private static void promise14Crank() {
        ToothStones x = Due.of("34,45");
        x.lay(0, 0);
        x.lay(1, 0);
        DUE.is("crank(0)", x.crank(0), 2);
        DUE.is("crank(1)", x.crank(1), 2);
        DUE.is("MARKS", Due.allMarks(x), 14);
        DUE.is("crank(-1)", x.crank(-1), 2);
        DUE.is("MARKS as they were", Due.allMarks(x), 21_00);
        DUE.is("crank(99)", x.crank(99), 0);
        DUE.is("MARKS behind 99", Due.allMarks(x), 22_31);
        DUE.is("crank(-99)", x.crank(-99), 2);
        DUE.is("MARKS as they were", Due.allMarks(x), 21_00);
        ToothStones stiff = laid("45s");
        DUE.is("STIFF, crank(2)", stiff.crank(2), 0);
        DUE.is("both forward", Due.allMarks(stiff), 22);
        stiff.crank(-3);
        DUE.is("both backward", Due.allMarks(stiff), 34);
        ToothStones front = Due.of("34");
        front.lay(0, 1);
        front.crank(1);
        DUE.is("by FRONT 1", Due.allMarks(front), 21);
        ToothStones ring = laid("33,33s,33s");
        ring.shut(true);
        DUE.is("a RING that is not ODD turns", ring.crank(1), 0);
        DUE.is("its MARKS", Due.allMarks(ring), 12_11_22);
    }

    private static void promise14Refusals() {
        DUE.is("crank(100)", laid("33").crank(100), BAD);
        DUE.is("crank(-100)", laid("33").crank(-100), BAD);
        DUE.is("no TRAIN", Due.of("33").crank(0), NONE);
        DUE.is("BAD ahead of NONE", Due.of("33").crank(100), BAD);
        for (String text : new String[] {"33,33p", "33h,33", "33s,33,33"}) {
            ToothStones x = laid(text);
            x.shut(true);
            int up = 2 * x.count(0);
            DUE.is(text + " crank(1)", x.crank(1), NOT);
            DUE.is(text + " crank(-1)", x.crank(-1), NOT);
            DUE.is(text + " crank(0)", x.crank(0), up);
            DUE.is(text + " stands still", Due.allMarks(x), 0);
        }
    }

    private static void promise15Around() {
        DUE.is("no TRAIN", Due.of("33").around(), NONE);
        DUE.is("33", laid("33").around(), 3);
        DUE.is("34", laid("34@21").around(), 12);
        DUE.is("46", laid("46").around(), 12);
        DUE.is("34,45", laid("34,45").around(), 60);
        DUE.is("88,99", laid("88,99").around(), 72);
        DUE.is("56,67,78,89", laid("56,67,78,89").around(), 2520);
        DUE.is("PAWLED", laid("33,33p").around(), NOT);
        DUE.is("HEAVY", laid("33h").around(), NOT);
        ToothStones ring = laid("33s,33,33");
        ring.shut(true);
        DUE.is("ODD RING", ring.around(), NOT);
        ToothStones x = laid("34,45");
        x.crank(60);
        DUE.is("it turns nothing", x.around(), 60);
        DUE.is("MARKS as they were", Due.allMarks(x), 0);
    }

    private static void promise16Up() {
        DUE.is("no TRAIN", Due.of("33").up(), NONE);
        DUE.is("34@00", laid("34").up(), 0);
        DUE.is("34@21", laid("34@21").up(), 1);
        DUE.is("34@12", laid("34@12").up(), 2);
        DUE.is("34@13", laid("34@13").up(), 11);
        DUE.is("33@11", laid("33@11").up(), NONE);
        DUE.is("46@11", laid("46@11").up(), 7);
        DUE.is("46@10", laid("46@10").up(), NONE);
        DUE.is("46s@11", laid("46s@11").up(), 11);
        DUE.is("34@21,45@33", laid("34@21,45@33").up(), 13);
        DUE.is("PAWLED, though all are UP", laid("33p").up(), NOT);
        ToothStones ring = laid("33s,33,33");
        ring.shut(true);
        DUE.is("ODD RING", ring.up(), NOT);
        ToothStones x = laid("56,67,78,89");
        for (int i = 1; i <= 25; i++) {
            x.crank(-99);
            DUE.is("far back " + i, x.up(), 99 * i);
        }
        x.crank(-44);
        DUE.is("the farthest back", x.up(), 2519);
        x.crank(-1);
        DUE.is("all the way", x.up(), 0);
    }
}
