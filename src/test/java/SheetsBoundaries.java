import java.util.function.Supplier;

/** Boundary cases of promises 23 to 28: JUDGED, ORDERS, SHEETS, films. */
final class SheetsBoundaries {
    private static final int BAD = ToothStones.BAD, NOT = ToothStones.NOT, NONE = ToothStones.NONE;
    private static final int NULL = ToothStones.NULL, CAST = ToothStones.CAST, INDEX = ToothStones.INDEX, SIZE = ToothStones.SIZE;
    private static final int LEAST = Integer.MIN_VALUE, MOST = Integer.MAX_VALUE;
    private static final int[] NO_SHEETS = {LEAST, -2, -1, 4, 5, 256, MOST};
    private static final int[] NO_LANES = {LEAST, -2, -1, 3, 4, 256, MOST};
    private static final String JUDGED = "JUDGED: LAYS (STONE and FRONT each) from an empty TRAIN on: the first one that MAY not be, or "
        + "whose STONE came ahead of it.";
    private static final String JUDGED_LAYS = "JUDGED: n LAYS (1 .. 12), two items each (STONE, FRONT) of a SHEET, taken as a row of a "
        + "LANE, from one on: the first that may not be.";
    private static final String ORDERS = "ORDERS of a set of STONES (2 to 5): rows of them in which each MAY be laid by FRONT 0, from an "
        + "empty TRAIN on, MARKS as they are now, and behind which their MARKS are as told: how many, the first as a row.";
    private static final String ORDERS_BY_MARKS = "ORDERS of a set of STONES by MARKS, two items (of WHEEL 0, of 1) for each of them by "
        + "numbers, of a SHEET likewise: how many (-1), the k-th STONE of the first (0 ..).";
    private static final String LOWEST_BITS = "Item i of a SHEET, taken as a row of a LANE, becomes v, its lowest bits (with its sign): 1.";
    private static final String FILM = "MARKS of STONES of THE TRAIN, two items each (FRONT, BACK), come to a SHEET, taken as a row of a "
        + "LANE, from one on: how many items.";

    private final Edges e;

    SheetsBoundaries(Edges e) {
        this.e = e;
    }

    void all() {
        promise23OneToTwelveLays();
        promise23FromAnEmptyTrain();
        promise23CameAhead();
        promise23TeethNear();
        promise23Bad();
        promise23NullCastIndex();
        promise23Not();
        promise23None();
        promise24SetsAreBits();
        promise24TwoToFive();
        promise24FrontZeroAndNear();
        promise24MarksAsTheyAre();
        promise24ManyAndTheFirst();
        promise24BadSet();
        promise24BadK();
        promise24BadSheet();
        promise24NullCastIndex();
        promise24None();
        promise25NewRow();
        promise25NoItemsAnd24();
        promise25Bad();
        promise25Size();
        promise26HowManyItHad();
        promise26BadAndNull();
        promise27LowestBits();
        promise27Refusals();
        promise28HowManyItems();
        promise28ItemsAroundStay();
        promise28BadNullCast();
        promise28IndexOfNone();
        promise28Index();
    }

    /** STONES of a text, and SHEETS 0, 1, 2 of LANES 0, 1, 2 with so many items, all 0; SHEET 3 holds nothing. */
    private static ToothStones rows(String text, int size) {
        ToothStones x = Due.of(text);
        for (int lane = 0; lane < 3; lane++) {
            x.sheet(lane, lane, size);
        }
        return x;
    }

    private static void items(ToothStones x, int sheet, int lane, int from, int... items) {
        for (int i = 0; i < items.length; i++) {
            x.item(sheet, lane, from + i, items[i]);
        }
    }

    private void promise23OneToTwelveLays() {
        e.sentence(23, JUDGED_LAYS);
        for (int lane = 0; lane < 3; lane++) {
            for (int n = 1; n <= 12; n++) {
                ToothStones x = StonesBoundaries.twelve(0, 3, 3);
                x.sheet(3, lane, 24);
                int from = 24 - 2 * n;
                for (int i = 0; i < n; i++) {
                    items(x, 3, lane, from + 2 * i, 11 - i, i % 2);
                }
                e.is(n + " LAYS", x.judged(3, lane, from, n), NONE);
                if (n > 1) {
                    x.item(3, lane, 22, 11);
                    e.is(n + " LAYS, the last may not be", x.judged(3, lane, from, n), n - 1);
                    e.is("without it", x.judged(3, lane, from, n - 1), NONE);
                    x.item(3, lane, from + 2, 11);
                    e.is(n + " LAYS, the second may not be", x.judged(3, lane, from, n), 1);
                }
            }
        }
    }

    private void promise23FromAnEmptyTrain() {
        e.sentence(23, JUDGED);
        for (int kind = 0; kind < 4; kind++) {
            ToothStones x = LaysBoundaries.laid(12, kind, 3, 3);
            x.shut(true);
            x.sheet(0, 0, 24);
            for (int i = 0; i < 12; i++) {
                x.item(0, 0, 2 * i, 11 - i);
            }
            String before = Edges.table(x);
            e.is("all are laid, THE RING is shut", x.judged(0, 0, 0, 12), NONE);
            e.same("it changes nothing", Edges.table(x), before);
        }
        ToothStones far = Due.of("99,33");
        far.lay(0, 0);
        far.sheet(0, 0, 2);
        far.item(0, 0, 0, 1);
        e.is("the first of any TEETH", far.judged(0, 0, 0, 1), NONE);
    }

    private void promise23CameAhead() {
        e.sentence(23, JUDGED);
        for (int first = 0; first < 11; first++) {
            for (int second = first + 1; second < 12; second++) {
                ToothStones x = StonesBoundaries.twelve(0, 3, 3);
                x.sheet(0, 0, 24);
                for (int i = 0; i < 12; i++) {
                    items(x, 0, 0, 2 * i, i == second ? first : i, 0);
                }
                e.is("STONE " + first + " again at " + second, x.judged(0, 0, 0, 12), second);
            }
        }
        ToothStones x = rows("33,33", 4);
        x.item(0, 0, 3, 1);
        e.is("again, by the other FRONT", x.judged(0, 0, 0, 2), 1);
    }

    private void promise23TeethNear() {
        e.sentence(23, JUDGED);
        for (int back = 3; back <= 9; back++) {
            for (int front = 3; front <= 9; front++) {
                ToothStones x = new ToothStones();
                x.stone(0, 6, back);
                x.stone(0, back, 6);
                x.stone(0, front, 9);
                x.stone(0, 3, front);
                boolean may = front - back >= -1 && front - back <= 1;
                for (int lays = 0; lays < 4; lays++) {
                    Due.fill(x, 0, 0, lays % 2, lays % 2, 2 + lays / 2, lays / 2);
                    e.is(back + " and " + front + " TEETH, " + lays, x.judged(0, 0, 0, 2), may ? NONE : 1);
                }
            }
        }
    }

    private void promise23Bad() {
        e.sentence(23, "BAD; NULL; CAST; INDEX;");
        Supplier<ToothStones> made = () -> rows("33,33", 24);
        for (int wrong : NO_SHEETS) {
            e.refused("SHEET " + wrong, made, x -> x.judged(wrong, 0, 0, 1), BAD);
        }
        for (int wrong : NO_LANES) {
            e.refused("LANE " + wrong, made, x -> x.judged(0, wrong, 0, 1), BAD);
            e.refused("BAD ahead of NULL, LANE " + wrong, made, x -> x.judged(3, wrong, 0, 1), BAD);
        }
        for (int wrong : new int[] {LEAST, -12, -1, 0, 13, 14, MOST}) {
            e.refused("n " + wrong, made, x -> x.judged(0, 0, 0, wrong), BAD);
            e.refused("BAD ahead of NULL, n " + wrong, made, x -> x.judged(3, 0, 0, wrong), BAD);
            e.refused("BAD ahead of CAST, n " + wrong, made, x -> x.judged(0, 1, 0, wrong), BAD);
            e.refused("BAD ahead of INDEX, n " + wrong, made, x -> x.judged(0, 0, -1, wrong), BAD);
        }
        e.refused("BAD ahead of NOT", () -> rows("", 24), x -> x.judged(0, 0, 0, 13), BAD);
    }

    private void promise23NullCastIndex() {
        e.sentence(23, "BAD; NULL; CAST; INDEX;");
        for (int size = 0; size <= 24; size++) {
            int its = size;
            Supplier<ToothStones> made = () -> rows("33,33", its);
            for (int lane = 0; lane < 3; lane++) {
                int of = lane;
                if (size % 12 == 0) {
                    e.refused("NULL", made, x -> x.judged(3, of, 0, 1), NULL);
                    e.refused("NULL ahead of INDEX", made, x -> x.judged(3, of, -1, 12), NULL);
                    e.refused("CAST", made, x -> x.judged((of + 1) % 3, of, 0, 1), CAST);
                    e.refused("CAST ahead of INDEX", made, x -> x.judged((of + 2) % 3, of, 25, 12), CAST);
                    for (int wrong : new int[] {LEAST, LEAST + 24, -25, -1, size, size + 1, MOST - 24, MOST - 1, MOST}) {
                        e.refused("INDEX, from " + wrong, made, x -> x.judged(of, of, wrong, 1), INDEX);
                        e.refused("INDEX, 12 LAYS from " + wrong, made, x -> x.judged(of, of, wrong, 12), INDEX);
                    }
                }
                for (int n = 1; n <= 12; n++) {
                    ToothStones x = rows("33,33", size);
                    int most = size - 2 * n;
                    int due = n == 1 ? NONE : 1;
                    e.is(size + " items, " + n + " LAYS from the last on", x.judged(lane, lane, most, n), most < 0 ? INDEX : due);
                    e.is(size + " items, " + n + " LAYS from one more on", x.judged(lane, lane, most + 1, n), INDEX);
                }
            }
        }
        e.refused("NULL, none told", ToothStones::new, x -> x.judged(0, 0, 0, 1), NULL);
        e.refused("INDEX ahead of NOT", () -> rows("", 4), x -> x.judged(0, 0, 0, 3), INDEX);
    }

    private void promise23Not() {
        e.sentence(23, "NOT: one of all told is no STONE, no FRONT (ahead of any LAY);");
        for (int lane = 0; lane < 3; lane++) {
            int of = lane;
            for (int place = 0; place < 12; place++) {
                for (int wrong : new int[] {-128, -2, -1, 2, 3, 12, 127}) {
                    int its = place;
                    if (wrong < 0 || wrong >= 12) {
                        e.refused("no STONE " + wrong + " at " + place, () -> {
                            ToothStones x = StonesBoundaries.twelve(0, 3, 3);
                            x.sheet(0, of, 24);
                            x.item(0, of, 2 * its, wrong);
                            return x;
                        }, x -> x.judged(0, of, 0, 12), NOT);
                    }
                    e.refused("no FRONT " + wrong + " at " + place, () -> {
                        ToothStones x = StonesBoundaries.twelve(0, 3, 3);
                        x.sheet(0, of, 24);
                        x.item(0, of, 2 * its + 1, wrong);
                        return x;
                    }, x -> x.judged(0, of, 0, 12), NOT);
                }
            }
        }
        ToothStones x = rows("33,34,99", 8);
        items(x, 2, 2, 0, 0, 0, 2, 0, 1, 0, 3, 0);
        e.is("ahead of any LAY that may not be", x.judged(2, 2, 0, 4), NOT);
        e.is("one not of those told", x.judged(2, 2, 0, 3), 1);
        items(x, 2, 2, 6, MOST, 0);
        e.is("the most", x.judged(2, 2, 0, 4), NOT);
        items(x, 2, 2, 6, 0, LEAST);
        e.is("the least", x.judged(2, 2, 0, 4), NOT);
        ToothStones none = rows("", 2);
        e.is("no STONE at all", none.judged(0, 0, 0, 1), NOT);
        e.is("one STONE", rows("33", 2).judged(0, 0, 0, 1), NONE);
    }

    private void promise23None() {
        e.sentence(23, "NONE: all may.");
        ToothStones x = rows("34,45,56,67", 8);
        items(x, 1, 1, 0, 0, 0, 1, 0, 2, 0, 3, 0);
        for (int n = 1; n <= 4; n++) {
            e.is(n + " LAYS", x.judged(1, 1, 0, n), NONE);
        }
        items(x, 1, 1, 0, 3, 1, 2, 1, 1, 1, 0, 1);
        e.is("by FRONT 1, from the last on", x.judged(1, 1, 0, 4), NONE);
    }

    /** Whether the row of STONES is the first of so many ORDERS; LOCKED ones, told by the MARKS that they have. */
    private void orders(String call, ToothStones x, int set, int from, int many, int... first) {
        e.is(call + ", how many", x.orders(set, 0, 0, from, -1), many);
        for (int k = 0; k < first.length; k++) {
            e.is(call + ", STONE at " + k, x.orders(set, 0, 0, from, k), first[k]);
        }
        e.is(call + ", a k that it has not", x.orders(set, 0, 0, from, first.length), BAD);
    }

    private void promise24SetsAreBits() {
        e.sentence(24, "Sets are bits.");
        for (int first = 0; first < 11; first++) {
            for (int second = first + 1; second < 12; second++) {
                ToothStones x = StonesBoundaries.twelve(1, 3, 3);
                x.sheet(0, 0, 24);
                int set = 1 << first | 1 << second;
                orders("STONES " + first + " and " + second, x, set, 20, 2, first, second);
                for (int item = 20; item < 24; item++) {
                    x.item(0, 0, item, 2);
                    e.is("one of them told another MARK", x.orders(set, 0, 0, 20, -1), NONE);
                    x.item(0, 0, item, 0);
                }
            }
        }
        ToothStones x = StonesBoundaries.twelve(3, 3, 3);
        x.sheet(0, 0, 24);
        orders("the last five", x, 0xf80, 0, 120, 7, 8, 9, 10, 11);
    }

    private void promise24TwoToFive() {
        e.sentence(24, ORDERS);
        int[] many = {1, 1, 2, 6, 24, 120};
        for (int size = 1; size <= 6; size++) {
            ToothStones x = StonesBoundaries.twelve(1, 3, 3);
            x.sheet(0, 0, 24);
            int set = (1 << size) - 1;
            e.is(size + " STONES", x.orders(set, 0, 0, 0, -1), size < 2 || size > 5 ? BAD : many[size]);
            e.is(size + " STONES, the last of the first", x.orders(set << 1, 0, 0, 0, size - 1), size < 2 || size > 5 ? BAD : size);
        }
    }

    private void promise24FrontZeroAndNear() {
        e.sentence(24, ORDERS);
        for (int back = 3; back <= 9; back++) {
            for (int front = 3; front <= 9; front++) {
                // 1 behind 0 alone: 0 has a FRONT 0 far from the BACK of 1
                int far = back <= 6 ? 9 : 3;
                ToothStones x = new ToothStones();
                x.stone(1, far, back);
                x.stone(1, front, far == 9 ? 3 : 9);
                x.sheet(0, 0, 4);
                boolean may = front - back >= -1 && front - back <= 1;
                e.is(back + " and " + front + " TEETH", x.orders(3, 0, 0, 0, -1), may ? 1 : NONE);
                e.is("the first", x.orders(3, 0, 0, 0, 0), may ? 0 : NONE);
            }
        }
        ToothStones laid = StonesBoundaries.twelve(1, 3, 3);
        laid.sheet(0, 0, 4);
        for (int stone = 0; stone < 12; stone++) {
            laid.lay(11 - stone, 1);
        }
        laid.shut(true);
        String before = Edges.table(laid);
        orders("from an empty TRAIN on, though all are laid", laid, 5, 0, 2, 0, 2);
        e.same("it changes nothing", Edges.table(laid), before);
        ToothStones far = Due.of("33p,33p,99");
        far.sheet(0, 0, 4);
        far.lay(2, 0);
        orders("from an empty TRAIN on, though 9 TEETH lie", far, 3, 0, 2, 0, 1);
        ToothStones turns = Due.of("33p,33p,33@11");
        turns.sheet(0, 0, 6);
        items(turns, 0, 0, 0, 0, 0, 0, 0, 1, 1);
        turns.lay(2, 0);
        orders("a STONE that lies is turned by those behind it alone", turns, 7, 0, 4, 0, 1, 2);
        orders("and by none if it is not of the set", turns, 3, 0, 2, 0, 1);
    }

    private void promise24MarksAsTheyAre() {
        e.sentence(24, ORDERS);
        // the first one's FRONT goes back and its BACK forward, the second one's not at all; round by 3 and by 9 TEETH
        ToothStones x = Due.of("39@08,93@82");
        x.sheet(0, 0, 4);
        for (int first = 0; first < 9; first++) {
            for (int second = 0; second < 9; second++) {
                items(x, 0, 0, 0, first, second, 8, 2);
                e.is("told " + first + " and " + second, x.orders(3, 0, 0, 0, -1), first == 2 && second == 0 ? 1 : NONE);
            }
        }
        items(x, 0, 0, 0, 0, 8, 7, 0);
        orders("the other row: FRONT of 9 from 8 to 7, BACK of 3 round to 0", x, 3, 0, 1, 1, 0);
        for (int item = 0; item < 4; item++) {
            items(x, 0, 0, 0, 2, 0, 8, 2);
            x.item(0, 0, item, 5);
            e.is("one item is another", x.orders(3, 0, 0, 0, -1), NONE);
        }
        items(x, 0, 0, 0, 2, 0, 8, 2);
        e.is("as told", x.orders(3, 0, 0, 0, -1), 1);
        e.is("MARKS stay", Due.allMarks(x), 8_82);
        x.mark(0, 0, 1);
        e.is("MARKS as they are now", x.orders(3, 0, 0, 0, -1), NONE);
    }

    private void promise24ManyAndTheFirst() {
        e.sentence(24, ORDERS_BY_MARKS);
        for (int from = 0; from <= 14; from++) {
            for (int lane = 0; lane < 3; lane++) {
                ToothStones x = Due.of("33p@01,33p@02,33p@10,33p@11,33p@12,33p@22");
                x.sheet(lane, lane, 24);
                for (int i = 0; i < 24; i++) {
                    x.item(lane, lane, i, 7);
                }
                items(x, lane, lane, from, 0, 1, 1, 0, 1, 1, 1, 2, 2, 2);
                // STONES 0, 2, 3, 4, 5
                e.is("five from " + from + ", how many", x.orders(61, lane, lane, from, -1), 120);
                int[] first = {0, 2, 3, 4, 5};
                for (int k = 0; k < 5; k++) {
                    e.is("the first, k " + k, x.orders(61, lane, lane, from, k), first[k]);
                }
                e.is("of another STONE", x.orders(62, lane, lane, from, -1), NONE);
            }
        }
        ToothStones some = Due.of("33@00,33p@00,33p@00,33@00");
        some.sheet(0, 0, 24);
        items(some, 0, 0, 0, 2, 1);
        // STONE 0 ahead of all others goes by a tooth once, then a PAWLED one behind it locks
        orders("those with STONE 0 ahead", some, 7, 0, 2, 0, 1, 2);
        items(some, 0, 0, 0, 0, 0, 0, 0, 0, 0);
        orders("those with another ahead", some, 7, 0, 4, 1, 0, 2);
    }

    private static ToothStones sixStones() {
        return rows("33p,33p,33p,33p,33p,33p", 24);
    }

    private void promise24BadSet() {
        e.sentence(24, "BAD: also a set not of 2 to 5, a k that it has not;");
        for (int set : new int[] {0, 1, 2, 4, 8, 16, 32, 63, 64, 65, 67, 96, 128 + 3, 4096 + 3, 65536 + 3, 1 << 30 | 3, LEAST,
            LEAST | 1, LEAST | 3, MOST, -1, -2, -64}) {
            e.refused("set " + set, SheetsBoundaries::sixStones, x -> x.orders(set, 0, 0, 0, -1), BAD);
            e.refused("BAD ahead of NULL, set " + set, SheetsBoundaries::sixStones, x -> x.orders(set, 3, 0, 0, -1), BAD);
            e.refused("BAD ahead of INDEX, set " + set, SheetsBoundaries::sixStones, x -> x.orders(set, 0, 0, -1, -1), BAD);
        }
        e.is("set 48, of the last two", sixStones().orders(48, 0, 0, 0, -1), 2);
        e.is("set 62, of the last five", sixStones().orders(62, 0, 0, 0, -1), 120);
        ToothStones all = StonesBoundaries.twelve(1, 3, 3);
        all.sheet(0, 0, 24);
        e.is("STONES 10, 11", all.orders(0xc00, 0, 0, 0, -1), 2);
        e.is("STONES 11, 12", all.orders(0x1800, 0, 0, 0, -1), BAD);
        e.is("STONES 0, 31", all.orders(LEAST | 1, 0, 0, 0, -1), BAD);
        e.is("all twelve", all.orders(0xfff, 0, 0, 0, -1), BAD);
        e.is("no STONE told", rows("", 24).orders(3, 0, 0, 0, -1), BAD);
    }

    private void promise24BadK() {
        e.sentence(24, "BAD: also a set not of 2 to 5, a k that it has not;");
        int[] sets = {0, 0, 3, 7, 15, 31};
        for (int size = 2; size <= 5; size++) {
            int set = sets[size];
            for (int wrong : new int[] {LEAST, -3, -2, size, size + 1, 12, MOST}) {
                e.refused("of " + size + ", k " + wrong, SheetsBoundaries::sixStones, x -> x.orders(set, 0, 0, 0, wrong), BAD);
                e.refused("BAD ahead of NULL", SheetsBoundaries::sixStones, x -> x.orders(set, 3, 0, 0, wrong), BAD);
                e.refused("BAD ahead of CAST", SheetsBoundaries::sixStones, x -> x.orders(set, 0, 1, 0, wrong), BAD);
                e.refused("BAD ahead of INDEX", SheetsBoundaries::sixStones, x -> x.orders(set, 0, 0, 24, wrong), BAD);
                e.refused("BAD ahead of NONE", () -> {
                    ToothStones x = sixStones();
                    x.item(0, 0, 0, 1);
                    return x;
                }, x -> x.orders(set, 0, 0, 0, wrong), BAD);
            }
            e.is("of " + size + ", the last k", sixStones().orders(set, 0, 0, 0, size - 1), size - 1);
        }
    }

    private void promise24BadSheet() {
        e.sentence(24, "BAD: also a set not of 2 to 5, a k that it has not;");
        for (int wrong : NO_SHEETS) {
            e.refused("SHEET " + wrong, SheetsBoundaries::sixStones, x -> x.orders(3, wrong, 0, 0, -1), BAD);
        }
        for (int wrong : NO_LANES) {
            e.refused("LANE " + wrong, SheetsBoundaries::sixStones, x -> x.orders(3, 0, wrong, 0, -1), BAD);
            e.refused("BAD ahead of NULL, LANE " + wrong, SheetsBoundaries::sixStones, x -> x.orders(3, 3, wrong, 0, -1), BAD);
        }
    }

    private void promise24NullCastIndex() {
        e.sentence(24, "NULL; CAST; INDEX;");
        int[] sets = {0, 0, 3, 7, 15, 31};
        for (int size = 2; size <= 5; size++) {
            int set = sets[size], items = 2 * size;
            e.refused("NULL", SheetsBoundaries::sixStones, x -> x.orders(set, 3, 0, 0, -1), NULL);
            e.refused("NULL ahead of INDEX", SheetsBoundaries::sixStones, x -> x.orders(set, 3, 0, -1, 0), NULL);
            e.refused("CAST", SheetsBoundaries::sixStones, x -> x.orders(set, 0, 2, 0, -1), CAST);
            e.refused("CAST ahead of INDEX", SheetsBoundaries::sixStones, x -> x.orders(set, 1, 0, 25, 1), CAST);
            for (int wrong : new int[] {LEAST, LEAST + 10, -1, 25 - items, 24, 25, MOST - 10, MOST - 1, MOST}) {
                e.refused("INDEX, " + size + " from " + wrong, SheetsBoundaries::sixStones, x -> x.orders(set, 2, 2, wrong, -1), INDEX);
                e.refused("INDEX ahead of NONE", () -> {
                    ToothStones x = sixStones();
                    x.mark(0, 0, 1);
                    return x;
                }, x -> x.orders(set, 2, 2, wrong, 0), INDEX);
            }
            e.is("the last items", sixStones().orders(set, 1, 1, 24 - items, 1), 1);
            for (int held = 0; held <= items; held++) {
                e.is(size + " STONES, " + held + " items", rows("33p,33p,33p,33p,33p", held).orders(set, 2, 2, 0, 0),
                        held < items ? INDEX : 0);
            }
        }
    }

    private void promise24None() {
        e.sentence(24, "NONE: there are none.");
        for (int k = -1; k < 5; k++) {
            int its = k;
            for (int item = 0; item < 10; item++) {
                int other = item;
                e.refused("item " + item + " is another, k " + k, () -> {
                    ToothStones x = sixStones();
                    x.item(0, 0, other, 1);
                    return x;
                }, x -> x.orders(31, 0, 0, 0, its), NONE);
            }
        }
        e.refused("none MAY be laid", () -> rows("33,55", 4), x -> x.orders(3, 0, 0, 0, 0), NONE);
        for (int wrong : new int[] {-128, -1, 3, 9, 127}) {
            e.refused("a MARK that can't be, " + wrong, () -> {
                ToothStones x = sixStones();
                x.item(2, 2, 1, wrong);
                return x;
            }, x -> x.orders(3, 2, 2, 0, -1), NONE);
        }
        e.is("a MARK that is 0 but for its lowest bits", rowsWithItem(256).orders(3, 2, 2, 0, -1), NONE);
        e.is("or for bits above 16", rowsWithItem(65536).orders(3, 2, 2, 0, -1), NONE);
    }

    private static ToothStones rowsWithItem(int v) {
        ToothStones x = sixStones();
        x.item(2, 2, 3, v);
        return x;
    }

    private void promise25NewRow() {
        e.sentence(25, "A SHEET holds a new row of a LANE: n.");
        for (int sheet = 0; sheet < 4; sheet++) {
            for (int lane = 0; lane < 3; lane++) {
                ToothStones x = StonesBoundaries.twelve(0, 3, 3);
                x.sheet(sheet, (lane + 1) % 3, 24);
                for (int i = 0; i < 24; i++) {
                    x.item(sheet, (lane + 1) % 3, i, 11);
                }
                e.is("a new one", x.sheet(sheet, lane, 24), 24);
                e.is("of its LANE alone", x.item(sheet, (lane + 1) % 3, 0, 0), CAST);
                // STONE 0 by FRONT 0 twelve times: the second came ahead; with 1 to 11 for each in turn all may
                e.is("its items are 0", x.judged(sheet, lane, 0, 12), 1);
                for (int i = 1; i < 12; i++) {
                    e.is("item " + 2 * i + " is 0", x.judged(sheet, lane, 0, i + 1), i);
                    x.item(sheet, lane, 2 * i, i);
                    e.is("item " + (2 * i + 1) + " is 0 or 1", x.judged(sheet, lane, 0, i + 1), NONE);
                }
            }
        }
    }

    private void promise25NoItemsAnd24() {
        e.sentence(25, "or a row of a LANE: 0 bytes, 1 shorts, 2 ints, of 0 to 24 items.");
        for (int lane = 0; lane < 3; lane++) {
            for (int n = -2; n <= 26; n++) {
                ToothStones x = new ToothStones();
                int due = n < 0 ? SIZE : n > 24 ? BAD : n;
                e.is("LANE " + lane + ", " + n + " items", x.sheet(1, lane, n), due);
                e.is("the last item", x.item(1, lane, n - 1, 0), due < 0 ? NULL : n == 0 ? INDEX : 1);
                e.is("one behind it", x.item(1, lane, n, 0), due < 0 ? NULL : INDEX);
                e.is("how many", x.drop(1), due < 0 ? NULL : n);
            }
            // STONE 0 by FRONT 0 needs all bits held to be 0: the lowest bit not held is cut
            ToothStones x = rows("33", 2);
            int held = lane == 0 ? 8 : lane == 1 ? 16 : 32;
            for (int bit = 0; bit < 32; bit++) {
                x.item(lane, lane, 0, 1 << bit);
                e.is("LANE " + lane + ", bit " + bit, x.judged(lane, lane, 0, 1), bit < held ? NOT : NONE);
            }
        }
    }

    private void promise25Bad() {
        e.sentence(25, "BAD: also n above 24;");
        for (int wrong : NO_SHEETS) {
            e.refused("SHEET " + wrong, StonesBoundaries::some, x -> x.sheet(wrong, 0, 1), BAD);
            e.refused("BAD ahead of SIZE, SHEET " + wrong, StonesBoundaries::some, x -> x.sheet(wrong, 0, -1), BAD);
        }
        for (int wrong : NO_LANES) {
            e.refused("LANE " + wrong, StonesBoundaries::some, x -> x.sheet(0, wrong, 1), BAD);
            e.refused("BAD ahead of SIZE, LANE " + wrong, StonesBoundaries::some, x -> x.sheet(3, wrong, -1), BAD);
        }
        for (int wrong : new int[] {25, 26, 48, 256, 1 << 30, MOST}) {
            e.refused("n " + wrong, StonesBoundaries::some, x -> x.sheet(0, 1, wrong), BAD);
            e.refused("n " + wrong + ", of a SHEET of nothing", StonesBoundaries::some, x -> x.sheet(3, 2, wrong), BAD);
        }
        e.is("n 24", StonesBoundaries.some().sheet(0, 1, 24), 24);
    }

    private void promise25Size() {
        e.sentence(25, "SIZE: n below 0.");
        for (int wrong : new int[] {LEAST, -256, -25, -2, -1}) {
            for (int sheet = 0; sheet < 4; sheet++) {
                int its = sheet;
                e.refused("SHEET " + sheet + ", n " + wrong, StonesBoundaries::some, x -> x.sheet(its, 2, wrong), SIZE);
            }
        }
        e.is("n 0", StonesBoundaries.some().sheet(0, 0, 0), 0);
    }

    private void promise26HowManyItHad() {
        e.sentence(26, "A SHEET holds nothing: how many items it had.");
        for (int sheet = 0; sheet < 4; sheet++) {
            for (int n = 0; n <= 24; n++) {
                ToothStones x = new ToothStones();
                for (int each = 0; each < 4; each++) {
                    x.sheet(each, 1, each == sheet ? n : 24 - n);
                }
                e.is("of " + n + ", drop(" + sheet + ")", x.drop(sheet), n);
                e.is("it holds nothing", x.item(sheet, 1, 0, 0), NULL);
                e.is("of any LANE", x.item(sheet, 2, 0, 0), NULL);
                e.is("again", x.drop(sheet), NULL);
                e.is("the next one stays", x.drop((sheet + 1) % 4), 24 - n);
                e.is("a new one", x.sheet(sheet, 0, 3), 3);
                e.is("its items", x.drop(sheet), 3);
            }
        }
    }

    private void promise26BadAndNull() {
        e.sentence(26, "BAD; NULL.");
        for (int wrong : NO_SHEETS) {
            e.refused("drop(" + wrong + ")", StonesBoundaries::some, x -> x.drop(wrong), BAD);
            e.refused("drop(" + wrong + ") of a new object", ToothStones::new, x -> x.drop(wrong), BAD);
        }
        e.refused("drop(3)", StonesBoundaries::some, x -> x.drop(3), NULL);
        for (int sheet = 0; sheet < 4; sheet++) {
            int its = sheet;
            e.refused("drop(" + sheet + ") of a new object", ToothStones::new, x -> x.drop(its), NULL);
        }
    }

    private void promise27LowestBits() {
        e.sentence(27, LOWEST_BITS);
        int[] bits = {8, 16, 32};
        for (int lane = 0; lane < 3; lane++) {
            for (long around : new long[] {0, 127, 128, 255, 256, 512, 32767, 32768, 65535, 65536, 131072, MOST, LEAST, -128, -256,
                -32768, -65536}) {
                for (long near = around - 14; near <= around + 14; near++) {
                    int v = (int) near;
                    long low = near & (1L << bits[lane]) - 1;
                    ToothStones x = StonesBoundaries.twelve(0, 3, 3);
                    x.sheet(3, lane, 4);
                    e.is("LANE " + lane + ", " + v, x.item(3, lane, 2, v), 1);
                    e.is("LANE " + lane + ", " + v + " is a STONE", x.judged(3, lane, 2, 1), low < 12 ? NONE : NOT);
                    if (low < 12) {
                        x.item(3, lane, 0, (int) low);
                        e.is("LANE " + lane + ", " + v + " is " + low, x.judged(3, lane, 0, 2), 1);
                        x.item(3, lane, 0, (int) (low + 1) % 12);
                        e.is("LANE " + lane + ", " + v + " is no other", x.judged(3, lane, 0, 2), NONE);
                    }
                }
            }
        }
        for (int lane = 0; lane < 3; lane++) {
            // the first and the last one of 24
            ToothStones x = StonesBoundaries.twelve(0, 3, 3);
            x.sheet(0, lane, 24);
            e.is("item 0", x.item(0, lane, 0, 12), 1);
            e.is("it became 12", x.judged(0, lane, 0, 1), NOT);
            e.is("the next LAY is not touched", x.judged(0, lane, 2, 11), 1);
            e.is("item 23", x.item(0, lane, 23, 2), 1);
            e.is("it became 2", x.judged(0, lane, 22, 1), NOT);
            e.is("the LAY ahead is not touched", x.judged(0, lane, 20, 1), NONE);
        }
    }

    private void promise27Refusals() {
        e.sentence(27, "BAD; NULL; CAST; INDEX.");
        for (int wrong : NO_SHEETS) {
            e.refused("SHEET " + wrong, StonesBoundaries::some, x -> x.item(wrong, 0, 0, 1), BAD);
        }
        for (int wrong : NO_LANES) {
            e.refused("LANE " + wrong, StonesBoundaries::some, x -> x.item(0, wrong, 0, 1), BAD);
            e.refused("BAD ahead of NULL, LANE " + wrong, StonesBoundaries::some, x -> x.item(3, wrong, 0, 1), BAD);
            e.refused("BAD ahead of INDEX, LANE " + wrong, StonesBoundaries::some, x -> x.item(0, wrong, -1, 1), BAD);
        }
        int[] sizes = {8, 5, 5};
        for (int sheet = 0; sheet < 4; sheet++) {
            int its = sheet;
            for (int lane = 0; lane < 3; lane++) {
                int of = lane;
                for (int i : new int[] {LEAST, -25, -1, 0, 1, 4, 5, 7, 8, 23, 24, 25, MOST}) {
                    String call = "item(" + sheet + ", " + lane + ", " + i + ", 77)";
                    if (sheet == 3 || sheet != lane || i < 0 || i >= sizes[sheet]) {
                        e.refused(call, StonesBoundaries::some, x -> x.item(its, of, i, 77),
                                sheet == 3 ? NULL : sheet != lane ? CAST : INDEX);
                    } else {
                        e.is(call, StonesBoundaries.some().item(sheet, lane, i, 77), 1);
                    }
                }
            }
        }
        e.refused("INDEX of a row of none", () -> rows("33", 0), x -> x.item(0, 0, 0, 1), INDEX);
    }

    private static ToothStones filmed(int stones, int sheet, int lane, int size) {
        ToothStones x = LaysBoundaries.laid(stones, 1, 9, 9);
        x.sheet(sheet, lane, size);
        return x;
    }

    private void promise28HowManyItems() {
        e.sentence(28, FILM);
        for (int lane = 0; lane < 3; lane++) {
            for (int stones = 0; stones <= 12; stones++) {
                ToothStones x = filmed(stones, lane, lane, 24);
                e.is(stones + " STONES from 0", x.film(lane, lane, 0), 2 * stones);
                e.is(stones + " STONES, the last there is room for", x.film(lane, lane, 24 - 2 * stones), 2 * stones);
                e.is(stones + " STONES, one more", x.film(lane, lane, 25 - 2 * stones), INDEX);
            }
        }
    }

    /** n STONES laid from the last to the first, each with other MARKS, and their film among 24 items that were 7. */
    private static ToothStones film(int stones, int lane, int from) {
        ToothStones x = StonesBoundaries.twelve(1, 9, 9);
        for (int stone = stones - 1; stone >= 0; stone--) {
            x.lay(stone, stone % 2);
        }
        for (int stone = 0; stone < 12; stone++) {
            x.mark(stone, 0, stone % 9);
            x.mark(stone, 1, (stone + 4) % 9);
        }
        x.sheet(0, lane, 24);
        for (int i = 0; i < 24; i++) {
            x.item(0, lane, i, 7);
        }
        x.film(0, lane, from);
        return x;
    }

    /** Item i of SHEET 0, if it is one of 0 to 8: found by ORDERS of two LOCKED STONES. The object is used up by that. */
    private static int itemRead(ToothStones x, int lane, int i) {
        Due.read(x, "99p,99p");
        int from = Math.min(i, 20);
        for (int other = from; other < from + 4; other++) {
            if (other != i) {
                x.item(0, lane, other, 0);
            }
        }
        for (int v = 0; v < 9; v++) {
            x.mark((i - from) / 2, (i - from) % 2, v);
            if (x.orders(3, 0, lane, from, -1) == 2) {
                return v;
            }
        }
        return -1;
    }

    private void promise28ItemsAroundStay() {
        e.sentence(28, FILM);
        for (int lane = 0; lane < 3; lane++) {
            for (int stones : new int[] {0, 1, 2, 7, 11, 12}) {
                for (int from : new int[] {0, 1, 12 - stones, 23 - 2 * stones, 24 - 2 * stones}) {
                    if (from < 0 || from + 2 * stones > 24) {
                        continue;
                    }
                    for (int i = 0; i < 24; i++) {
                        int place = (i - from + 24) / 2 - 12;
                        int stone = stones - 1 - place;
                        int wheel = (i - from + 24) % 2 == 0 ? stone % 2 : 1 - stone % 2;
                        boolean isOfFilm = i >= from && i < from + 2 * stones;
                        int due = !isOfFilm ? 7 : wheel == 0 ? stone % 9 : (stone + 4) % 9;
                        e.is(stones + " STONES from " + from + ", LANE " + lane + ", item " + i,
                                itemRead(film(stones, lane, from), lane, i), due);
                    }
                }
            }
        }
    }

    private void promise28BadNullCast() {
        e.sentence(28, "BAD; NULL; CAST; INDEX (of none, too: from below 0, or above how many there are).");
        for (int wrong : NO_SHEETS) {
            e.refused("SHEET " + wrong, StonesBoundaries::some, x -> x.film(wrong, 0, 0), BAD);
            e.refused("SHEET " + wrong + ", no TRAIN", ToothStones::new, x -> x.film(wrong, 0, 0), BAD);
        }
        for (int wrong : NO_LANES) {
            e.refused("LANE " + wrong, StonesBoundaries::some, x -> x.film(0, wrong, 0), BAD);
            e.refused("BAD ahead of NULL, LANE " + wrong, StonesBoundaries::some, x -> x.film(3, wrong, 0), BAD);
            e.refused("BAD ahead of INDEX, LANE " + wrong, StonesBoundaries::some, x -> x.film(0, wrong, -1), BAD);
        }
        for (int from : new int[] {LEAST, -1, 0, 2, 3, 24, MOST}) {
            for (int lane = 0; lane < 3; lane++) {
                int of = lane;
                e.refused("NULL, from " + from, StonesBoundaries::some, x -> x.film(3, of, from), NULL);
                e.refused("NULL, no TRAIN, from " + from, ToothStones::new, x -> x.film(of, of, from), NULL);
                e.refused("CAST, from " + from, StonesBoundaries::some, x -> x.film(of, (of + 1) % 3, from), CAST);
                e.refused("CAST, no TRAIN, from " + from, () -> rows("33", 4), x -> x.film(of, (of + 2) % 3, from), CAST);
            }
        }
    }

    private void promise28IndexOfNone() {
        e.sentence(28, "INDEX (of none, too: from below 0, or above how many there are).");
        for (int lane = 0; lane < 3; lane++) {
            for (int size = 0; size <= 24; size++) {
                for (int from = -2; from <= 26; from++) {
                    ToothStones x = filmed(0, lane, lane, size);
                    e.is("of none, " + size + " items, from " + from, x.film(lane, lane, from), from < 0 || from > size ? INDEX : 0);
                }
                int of = lane, its = size;
                e.refused("of none, from the least", () -> filmed(0, of, of, its), x -> x.film(of, of, LEAST), INDEX);
                e.refused("of none, from the most", () -> filmed(0, of, of, its), x -> x.film(of, of, MOST), INDEX);
            }
        }
    }

    private void promise28Index() {
        e.sentence(28, "INDEX (of none, too: from below 0, or above how many there are).");
        for (int stones = 1; stones <= 12; stones++) {
            int laid = stones;
            for (int size : new int[] {0, 1, 2 * stones - 1, 2 * stones, Math.min(24, 2 * stones + 1), 24}) {
                for (int from = -2; from <= 26; from++) {
                    boolean is = from >= 0 && from + 2 * stones <= size;
                    ToothStones x = filmed(stones, 0, 0, size);
                    e.is(stones + " STONES, " + size + " items, from " + from, x.film(0, 0, from), is ? 2 * stones : INDEX);
                }
                for (int wrong : new int[] {LEAST, LEAST + 24, -24, -1, size, MOST - 24, MOST}) {
                    e.refused(stones + " STONES, from " + wrong, () -> filmed(laid, 0, 0, size), x -> x.film(0, 0, wrong), INDEX);
                }
            }
        }
    }
}
