/** Promises 1 to 8: a new object, stones, marks, hands, the tape, counts. */
public final class StonesHandsTest {
    private static final Due DUE = new Due("StonesHandsTest");

    public static void main(String[] args) {
        promise1NewObject();
        promise2Stone();
        promise3Mark();
        promise4Told();
        promise5Deal();
        promise6Type();
        promise7Stones();
        promise7Faults();
        promise7FaultsAmongBlanks();
        promise7Replaces();
        promise8Count();
        DUE.end();
    }

    private static void promise1NewObject() {
        ToothStones x = new ToothStones();
        for (int what = 0; what < 8; what++) {
            DUE.is("new: count(" + what + ")", x.count(what), 0);
            DUE.is("new: told(0, " + what + ")", x.told(0, what), ToothStones.BAD);
        }
        DUE.is("new: THE DRAW", x.seed(5), 1);
        DUE.is("new: no IMAGE", x.restore(), ToothStones.NONE);
        DUE.is("new: no TRAIN", x.locked(), ToothStones.NONE);
        DUE.is("new: THE TAPE is empty", x.type(32, 1), 1);
        for (int sheet = 0; sheet < 4; sheet++) {
            DUE.is("new: SHEET " + sheet, x.drop(sheet), ToothStones.NULL);
        }
    }

    private static void promise2Stone() {
        ToothStones x = new ToothStones();
        DUE.is("stone(-1, 3, 3)", x.stone(-1, 3, 3), ToothStones.BAD);
        DUE.is("stone(4, 3, 3)", x.stone(4, 3, 3), ToothStones.BAD);
        DUE.is("stone(0, 2, 3)", x.stone(0, 2, 3), ToothStones.BAD);
        DUE.is("stone(0, 10, 3)", x.stone(0, 10, 3), ToothStones.BAD);
        DUE.is("stone(0, 3, 2)", x.stone(0, 3, 2), ToothStones.BAD);
        DUE.is("stone(0, 3, 10)", x.stone(0, 3, 10), ToothStones.BAD);
        DUE.is("refused stones", x.count(0), 0);
        for (int i = 0; i < 12; i++) {
            DUE.is("stone " + i, x.stone(i % 4, 3 + i % 7, 9 - i % 7), i);
        }
        DUE.is("a thirteenth", x.stone(0, 3, 3), ToothStones.FULL);
        DUE.is("BAD ahead of FULL", x.stone(0, 3, 10), ToothStones.BAD);
        DUE.is("stones then", x.count(0), 12);
        for (int i = 0; i < 12; i++) {
            DUE.is("KIND of " + i, x.told(i, 0), i % 4);
            DUE.is("TEETH of " + i, 10 * x.told(i, 1) + x.told(i, 2), 10 * (3 + i % 7) + 9 - i % 7);
            DUE.is("MARKS of " + i, Due.marks(x, i), 0);
            DUE.is("HAND of " + i, x.told(i, 7), ToothStones.NONE);
        }
    }

    private static void promise3Mark() {
        ToothStones x = Due.of("35,53");
        DUE.is("mark(0, 0, 2)", x.mark(0, 0, 2), 0);
        DUE.is("mark(0, 1, 4)", x.mark(0, 1, 4), 0);
        DUE.is("mark(0, 0, 1)", x.mark(0, 0, 1), 2);
        DUE.is("MARKS of 0", Due.marks(x, 0), 14);
        DUE.is("MARKS of 1", Due.marks(x, 1), 0);
        DUE.is("mark(-1, 0, 0)", x.mark(-1, 0, 0), ToothStones.BAD);
        DUE.is("mark(2, 0, 0)", x.mark(2, 0, 0), ToothStones.BAD);
        DUE.is("mark(0, -1, 0)", x.mark(0, -1, 0), ToothStones.BAD);
        DUE.is("mark(0, 2, 0)", x.mark(0, 2, 0), ToothStones.BAD);
        DUE.is("mark(0, 0, -1)", x.mark(0, 0, -1), ToothStones.BAD);
        DUE.is("mark(0, 0, 3)", x.mark(0, 0, 3), ToothStones.BAD);
        DUE.is("mark(0, 1, 5)", x.mark(0, 1, 5), ToothStones.BAD);
        DUE.is("MARKS of 0 then", Due.marks(x, 0), 14);
        x.lay(0, 0);
        DUE.is("mark of a STONE laid", x.mark(0, 1, 0), 4);
        DUE.is("MARKS of a STONE laid", Due.marks(x, 0), 10);
    }

    private static void promise4Told() {
        ToothStones x = Due.of("34p@12,56s,54h,65");
        int[][] due = {{1, 3, 4, 1, 2}, {2, 5, 6, 0, 0}, {3, 5, 4, 0, 0}, {0, 6, 5, 0, 0}};
        for (int stone = 0; stone < due.length; stone++) {
            for (int what = 0; what < 5; what++) {
                DUE.is("told(" + stone + ", " + what + ")", x.told(stone, what), due[stone][what]);
            }
        }
        x.deal(0, 1);
        x.deal(1, 0);
        x.lay(2, 1);
        x.lay(1, 0);
        int[][] lies = {{-4, -4, 1}, {1, 0, -4}, {0, 1, -4}, {-4, -4, -4}};
        for (int stone = 0; stone < lies.length; stone++) {
            for (int what = 5; what < 8; what++) {
                DUE.is("told(" + stone + ", " + what + ")", x.told(stone, what), lies[stone][what - 5]);
            }
        }
        DUE.is("told(0, -1)", x.told(0, -1), ToothStones.BAD);
        DUE.is("told(0, 8)", x.told(0, 8), ToothStones.BAD);
        DUE.is("told(-1, 0)", x.told(-1, 0), ToothStones.BAD);
        DUE.is("told(4, 0)", x.told(4, 0), ToothStones.BAD);
    }

    private static void promise5Deal() {
        ToothStones x = Due.of("33,33");
        DUE.is("deal(0, 0)", x.deal(0, 0), ToothStones.NONE);
        DUE.is("deal(0, 1)", x.deal(0, 1), 0);
        DUE.is("deal(0, 1) again", x.deal(0, 1), 1);
        DUE.is("deal(0, -1)", x.deal(0, -1), 1);
        DUE.is("deal(0, -1) again", x.deal(0, -1), ToothStones.NONE);
        DUE.is("HAND of 0", x.told(0, 7), ToothStones.NONE);
        DUE.is("deal(1, 0)", x.deal(1, 0), ToothStones.NONE);
        DUE.is("deal(1, 2)", x.deal(1, 2), ToothStones.BAD);
        DUE.is("deal(1, -2)", x.deal(1, -2), ToothStones.BAD);
        DUE.is("deal(2, 0)", x.deal(2, 0), ToothStones.BAD);
        DUE.is("deal(-1, 0)", x.deal(-1, 0), ToothStones.BAD);
        DUE.is("HAND of 1", x.told(1, 7), 0);
        x.lay(1, 0);
        DUE.is("deal of a STONE laid", x.deal(1, 1), ToothStones.NOT);
        DUE.is("BAD ahead of NOT", x.deal(1, 2), ToothStones.BAD);
        DUE.is("HAND of a STONE laid", x.told(1, 7), ToothStones.NONE);
    }

    private static void promise6Type() {
        ToothStones x = new ToothStones();
        DUE.is("type(w, 0)", x.type(Due.word("33"), 0), ToothStones.BAD);
        DUE.is("type(w, 9)", x.type(Due.word("33333333"), 9), ToothStones.BAD);
        DUE.is("a byte 31", x.type(0x331f33, 3), ToothStones.BAD);
        DUE.is("a byte 127", x.type(0x7f33, 2), ToothStones.BAD);
        DUE.is("a byte 128", x.type(0x80, 1), ToothStones.BAD);
        DUE.is("a highest byte 255", x.type(-1L, 8), ToothStones.BAD);
        DUE.is("a byte too many", x.type(0x33, 2), ToothStones.BAD);
        DUE.is("bytes above the n lowest", x.type(0x00ff_0033_3334L, 2), 2);
        DUE.is("the bytes that came", x.stones(), 1);
        DUE.is("32 and 126", x.type(0x207e, 2), 2);
        DUE.is("126 is no STONE", x.stones(), -21);
        for (int i = 1; i <= 9; i++) {
            DUE.is("8 bytes more", x.type(Due.word("34@00,  "), 8), 8 * i);
        }
        DUE.is("7 bytes more", x.type(Due.word("       "), 7), 79);
        DUE.is("2 too many", x.type(Due.word("  "), 2), ToothStones.FULL);
        DUE.is("BAD ahead of FULL", x.type(0x1f20, 2), ToothStones.BAD);
        DUE.is("the eightieth", x.type(Due.word(" "), 1), 80);
        DUE.is("one too many", x.type(Due.word(" "), 1), ToothStones.FULL);
        x.stones();
        DUE.is("highest first", Due.typed(x, "34p@12,56s"), 10);
        DUE.is("two STONES", x.stones(), 2);
        DUE.is("TEETH", 100 * (10 * x.told(0, 1) + x.told(0, 2)) + 10 * x.told(1, 1) + x.told(1, 2), 3456);
        DUE.is("MARKS", Due.marks(x, 0), 12);
    }

    private static void promise7Stones() {
        DUE.is("33", Due.read(new ToothStones(), "33"), 1);
        DUE.is("8 STONES", Due.read(new ToothStones(), "33,44,55,66,77,88,99,39"), 8);
        DUE.is("the longest text", Due.read(new ToothStones(),
                "33p@00,44s@11,55h@22,66p@33,77s@44,88h@55,99p@66,99s@88"), 8);
        DUE.is("blanks anywhere", Due.read(new ToothStones(), "  3 4  h @ 1 2 , 5 6   "), 2);
        DUE.is("blanks behind 8 STONES", Due.read(new ToothStones(), "33,44,55,66,77,88,99,39   "), 8);
        ToothStones x = Due.of("34@23,55p,66s@05,79h");
        int[][] due = {{0, 3, 4, 2, 3}, {1, 5, 5, 0, 0}, {2, 6, 6, 0, 5}, {3, 7, 9, 0, 0}};
        for (int stone = 0; stone < due.length; stone++) {
            for (int what = 0; what < 5; what++) {
                DUE.is("told(" + stone + ", " + what + ")", x.told(stone, what), due[stone][what]);
            }
        }
    }

    private static void promise7Faults() {
        fault("", 0);
        fault("2", 0);
        fault(",33", 0);
        fault("p33", 0);
        fault("3", 1);
        fault("32", 1);
        fault("3,", 1);
        fault("333", 2);
        fault("33P", 2);
        fault("33p@", 4);
        fault("33p,", 4);
        fault("33ps", 3);
        fault("33@p", 3);
        fault("33@3", 3);
        fault("33@2", 4);
        fault("34@33", 3);
        fault("34@24", 4);
        fault("34@12p", 5);
        fault("34@12@", 5);
        fault("34@123", 5);
        fault("33,,33", 3);
        fault("33,33,", 6);
        fault("33,3a", 4);
        fault("33,33,33,33,33,33,33,33,", 23);
        fault("33,33,33,33,33,33,33,33,33", 23);
        fault("33,33,33,33,33,33,33,33x", 23);
    }

    private static void promise7FaultsAmongBlanks() {
        fault(" ", 1);
        fault("   ", 3);
        fault(" x", 1);
        fault(" ,33", 1);
        fault("3 ", 2);
        fault(" 3", 2);
        fault("3   x", 4);
        fault("3 2", 2);
        fault("33 4", 3);
        fault("33 p s", 5);
        fault("33 @ 3", 5);
        fault("33 @  2 ", 8);
        fault("33, ", 4);
        fault(" 3 3 , 3 a", 9);
        fault(" 3 3 , 3 ", 9);
        fault("33,33,33,33,33,33,33,33  ,  33", 25);
        fault("                                                                               3", 80);
        fault("                                                                               x", 79);
    }

    private static void fault(String text, int place) {
        ToothStones x = Due.of("45@12");
        DUE.is("stones() of '" + text + "'", Due.read(x, text), -20 - place);
        DUE.is("those told stay", x.count(0) == 1 ? Due.marks(x, 0) : -1, 12);
        DUE.is("THE TAPE is empty", x.type(32, 1), 1);
    }

    private static void promise7Replaces() {
        ToothStones x = Due.of("33@12,33,33,44");
        x.deal(0, 0);
        x.deal(1, 1);
        x.deal(3, 0);
        x.seed(77);
        x.lay(0, 0);
        DUE.is("a LAY that SCORES", x.lay(1, 0), 2);
        x.lay(2, 0);
        x.take(2);
        x.mark(0, 0, 1);
        x.mark(0, 1, 2);
        x.mark(1, 0, 0);
        x.mark(1, 1, 0);
        x.deal(1, 0);
        DUE.is("a LAY that SCORES for the other HAND", x.lay(1, 0), 2);
        x.mark(1, 1, 1);
        x.lay(2, 0);
        x.shut(true);
        x.image();
        DUE.is("a FAULT", Due.read(x, "33,3"), -24);
        DUE.is("THE TRAIN stays", x.count(1), 3);
        DUE.is("THE RING stays", x.count(7), 1);
        DUE.is("a new text", Due.read(x, "56,67"), 2);
        int[] due = {2, 0, 0, 0, 0, 0, 0, 0};
        for (int what = 0; what < 8; what++) {
            DUE.is("count(" + what + ") then", x.count(what), due[what]);
        }
        for (int stone = 0; stone < 2; stone++) {
            for (int what = 5; what < 8; what++) {
                DUE.is("told(" + stone + ", " + what + ") then", x.told(stone, what), ToothStones.NONE);
            }
        }
        DUE.is("MARKS are 0 again", Due.allMarks(x), 0);
        DUE.is("THE DRAW stays", x.seed(1), 77);
        DUE.is("THE IMAGE stays", x.restore(), 1);
        DUE.is("as it was in the IMAGE", x.count(1), 3);
    }

    private static void promise8Count() {
        ToothStones x = Due.of("33@12,33,33h,44,55,66");
        x.deal(0, 0);
        x.deal(1, 1);
        x.deal(2, 0);
        x.deal(3, 1);
        x.deal(4, 1);
        DUE.is("count(-1)", x.count(-1), ToothStones.BAD);
        DUE.is("count(8)", x.count(8), ToothStones.BAD);
        counts(x, 6, 0, 2, 3, 0, 0, 0, 0);
        x.lay(0, 0);
        counts(x, 6, 1, 1, 3, 0, 0, 0, 0);
        x.lay(1, 0);
        counts(x, 6, 2, 1, 2, 0, 2, 4, 0);
        x.crank(1);
        x.crank(-1);
        x.mark(0, 0, 1);
        x.mark(0, 1, 2);
        x.mark(1, 0, 1);
        x.mark(1, 1, 2);
        x.lay(2, 1);
        counts(x, 6, 3, 0, 2, 4, 2, 6, 0);
        x.shut(true);
        counts(x, 6, 3, 0, 2, 4, 2, 6, 1);
        x.take(3);
        counts(x, 6, 0, 0, 2, 4, 2, 0, 0);
    }

    private static void counts(ToothStones x, int... due) {
        for (int what = 0; what < due.length; what++) {
            DUE.is("count(" + what + ")", x.count(what), due[what]);
        }
    }
}
