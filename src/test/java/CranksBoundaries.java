/** Boundary cases of promises 13 to 16 and 18: what is LOCKED, CRANKS, RETURN, UP AGAIN, POINT. */
final class CranksBoundaries {
    private static final int BAD = ToothStones.BAD, NOT = ToothStones.NOT, NONE = ToothStones.NONE;
    private static final int LEAST = Integer.MIN_VALUE, MOST = Integer.MAX_VALUE;
    private static final String CRANK = "CRANK: the first FRONT is turned so many teeth forward (below 0: backward), unless "
        + "that is LOCKED.";

    private final Edges e;

    CranksBoundaries(Edges e) {
        this.e = e;
    }

    void all() {
        promise13OddRing();
        promise13ByAStone();
        promise13RingAheadOfStone();
        promise13None();
        promise14Backward();
        promise14RoundByTeeth();
        promise14Teeth();
        promise14ZeroIsNeverLocked();
        promise14HowManyAreUp();
        promise14Bad();
        promise14None();
        promise14Not();
        promise15AboveZero();
        promise15Fewest();
        promise15None();
        promise15Not();
        promise16ZeroToo();
        promise16Fewest();
        promise16None();
        promise16Not();
        promise16Never();
        promise18ZeroToo();
        promise18Fewest();
        promise18Bad();
        promise18NotLaid();
        promise18MarkBelowTeeth();
        promise18Not();
    }

    /** Three STONES of TEETH 4 and 4 laid by FRONT 0, one of these of another KIND at a place; MARKS 1 and 3. */
    private static ToothStones three(int kind, int place) {
        ToothStones x = new ToothStones();
        for (int stone = 0; stone < 3; stone++) {
            x.stone(stone == place ? kind : 0, 4, 4);
        }
        for (int stone = 0; stone < 3; stone++) {
            x.lay(stone, 0);
        }
        for (int stone = 0; stone < 3; stone++) {
            x.mark(stone, 0, 1);
            x.mark(stone, 1, 3);
        }
        return x;
    }

    private static ToothStones oddRing() {
        ToothStones x = three(2, 1);
        x.shut(true);
        return x;
    }

    private void promise13OddRing() {
        e.sentence(13, "It is ODD, if these two would go the same way.");
        for (int lie = 3; lie <= 12; lie++) {
            for (int stiff = 0; stiff <= lie; stiff++) {
                ToothStones x = new ToothStones();
                for (int stone = 0; stone < lie; stone++) {
                    x.stone(stone < stiff ? 2 : 0, 5, 5);
                }
                for (int stone = 0; stone < lie; stone++) {
                    x.lay(stone, stone % 2);
                }
                e.is(lie + " STONES, " + stiff + " STIFF, open", x.locked(), 0);
                x.shut(true);
                // each STONE turns the way around, but a STIFF one
                e.is(lie + " STONES, " + stiff + " STIFF, shut", x.locked(), stiff % 2);
                e.is("crank(1)", x.crank(1) == NOT ? 1 : 0, stiff % 2);
                e.is("crank(-1)", x.crank(-1) == NOT ? 1 : 0, stiff % 2);
                x.shut(false);
                e.is(lie + " STONES, " + stiff + " STIFF, open again", x.locked(), 0);
            }
        }
    }

    private void promise13ByAStone() {
        e.sentence(13, "Whether a turn of the last BACK by a tooth forward is LOCKED: by an ODD RING (1), else by a STONE "
                + "(2 and its number; the last one of THE TRAIN that would go backward), not (0).");
        for (int kind = 0; kind < 4; kind++) {
            for (int stone = 0; stone < 12; stone++) {
                ToothStones x = new ToothStones();
                for (int i = 0; i < 12; i++) {
                    x.stone(i == stone ? kind : 1 - kind % 2, 3, 3);
                }
                x.lay(stone, 0);
                e.is("KIND " + kind + ", STONE " + stone + " alone", x.locked(), kind % 2 == 1 ? 2 + stone : 0);
            }
        }
        ToothStones x = StonesBoundaries.twelve(3, 3, 3);
        int[] row = {5, 0, 11, 3, 2, 10, 1, 4, 9, 6, 8, 7};
        for (int stone : row) {
            x.lay(stone, stone % 2);
            e.is("the last one is " + stone, x.locked(), 2 + stone);
        }
        for (int place = 11; place > 0; place--) {
            x.take(1);
            e.is("the last one is " + row[place - 1] + " again", x.locked(), 2 + row[place - 1]);
        }
        ToothStones free = Due.of("33p,33h,33,33s,33");
        for (int stone = 0; stone < 5; stone++) {
            free.lay(stone, 0);
        }
        e.is("those behind it are FREE or STIFF", free.locked(), 2 + 1);
        free.shut(true);
        e.is("in a RING that is ODD", free.locked(), 1);
        ToothStones even = three(1, 1);
        even.shut(true);
        e.is("in a RING that is not ODD", even.locked(), 2 + 1);
    }

    private void promise13RingAheadOfStone() {
        e.sentence(13, "Whether a turn of the last BACK by a tooth forward is LOCKED: by an ODD RING (1), else by a STONE "
                + "(2 and its number; the last one of THE TRAIN that would go backward), not (0).");
        ToothStones x = Due.of("33h,33s,33p");
        for (int stone = 0; stone < 3; stone++) {
            x.lay(stone, 0);
        }
        e.is("open", x.locked(), 2 + 2);
        x.shut(true);
        e.is("an ODD RING ahead of a STONE", x.locked(), 1);
        x.shut(false);
        e.is("open again", x.locked(), 2 + 2);
        long marks = Due.allMarks(three(0, 0));
        ToothStones asked = three(0, 0);
        e.is("not LOCKED", asked.locked(), 0);
        e.is("it turns nothing", Due.allMarks(asked), marks);
    }

    private void promise13None() {
        e.sentence(13, "NONE: THE TRAIN is empty.");
        e.refused("a new object", ToothStones::new, ToothStones::locked, NONE);
        e.refused("twelve STONES on THE HEAP", () -> StonesBoundaries.twelve(1, 3, 3), ToothStones::locked, NONE);
        ToothStones x = three(1, 0);
        e.is("not empty", x.locked(), 2);
        x.take(3);
        e.is("empty again", x.locked(), NONE);
    }

    private void promise14Backward() {
        e.sentence(14, CRANK);
        for (int front = 0; front < 2; front++) {
            ToothStones x = Due.of("77");
            x.lay(0, front);
            x.crank(2);
            e.is("by FRONT " + front + ", crank(2)", x.told(0, 3 + front), 2);
            e.is("its BACK", x.told(0, 4 - front), 5);
            x.crank(-5);
            e.is("by FRONT " + front + ", crank(-5)", x.told(0, 3 + front), 4);
            e.is("its BACK", x.told(0, 4 - front), 3);
        }
        ToothStones x = three(2, 1);
        x.crank(1);
        // FRONT forward, BACK backward; STIFF: both forward; FRONT backward, BACK forward
        e.is("of three, the middle one STIFF", Due.allMarks(x), 22_20_00);
    }

    private void promise14RoundByTeeth() {
        e.sentence(14, "A MARK that goes forward becomes 1 more, backward 1 less, round by its TEETH.");
        for (int teeth = 3; teeth <= 9; teeth++) {
            for (int kind = 0; kind <= 2; kind += 2) {
                ToothStones x = new ToothStones();
                x.stone(kind, teeth, teeth);
                x.lay(0, 0);
                int front = 0, back = 0;
                for (int way = 1; way >= -1; way -= 2) {
                    for (int i = 0; i < 2 * teeth; i++) {
                        x.crank(way);
                        int backWay = kind == 2 ? way : -way;
                        front = front + way == teeth ? 0 : front + way < 0 ? teeth - 1 : front + way;
                        back = back + backWay == teeth ? 0 : back + backWay < 0 ? teeth - 1 : back + backWay;
                        e.is(teeth + " TEETH, KIND " + kind + ", way " + way, Due.marks(x, 0), 10 * front + back);
                    }
                }
            }
        }
    }

    private void promise14Teeth() {
        e.sentence(14, "CRANK by teeth (-99 .. 99; 0 is never LOCKED): how many MARKS of THE TRAIN are UP then.");
        for (int teeth = -102; teeth <= 102; teeth++) {
            ToothStones x = three(0, 0);
            long marks = Due.allMarks(x);
            boolean is = teeth >= -99 && teeth <= 99;
            int front = (1 + teeth + 400) % 4, back = (3 - teeth + 400) % 4;
            int up = 3 * (front == 0 ? 1 : 0) + 3 * (back == 0 ? 1 : 0);
            e.is("crank(" + teeth + ")", x.crank(teeth), is ? up : BAD);
            e.is("MARKS", Due.allMarks(x), is ? (10 * front + back) * 10101L : marks);
        }
    }

    private void promise14ZeroIsNeverLocked() {
        e.sentence(14, "CRANK by teeth (-99 .. 99; 0 is never LOCKED): how many MARKS of THE TRAIN are UP then.");
        for (int place = 0; place < 3; place++) {
            for (int kind = 0; kind < 4; kind++) {
                ToothStones x = three(kind, place);
                x.mark(place, 1, 0);
                x.shut(true);
                long marks = Due.allMarks(x);
                e.is("KIND " + kind + " at " + place + ", crank(0)", x.crank(0), 1);
                e.is("it turns nothing", Due.allMarks(x), marks);
            }
        }
    }

    private void promise14HowManyAreUp() {
        e.sentence(14, "CRANK by teeth (-99 .. 99; 0 is never LOCKED): how many MARKS of THE TRAIN are UP then.");
        ToothStones x = LaysBoundaries.laid(12, 0, 9, 9);
        e.is("all of twelve", x.crank(0), 24);
        e.is("none of twelve", x.crank(1), 0);
        e.is("all again", x.crank(-1), 24);
        e.is("round", x.crank(99), 24);
        e.is("round, backward", x.crank(-99), 24);
        x.take(11);
        e.is("those of THE TRAIN alone", x.crank(9), 2);
    }

    private void promise14Bad() {
        e.sentence(14, "BAD;");
        for (int wrong : new int[] {LEAST, -1000, -101, -100, 100, 101, 1000, MOST}) {
            e.refused("crank(" + wrong + ")", () -> three(0, 0), x -> x.crank(wrong), BAD);
            e.refused("BAD ahead of NONE, crank(" + wrong + ")", ToothStones::new, x -> x.crank(wrong), BAD);
            e.refused("BAD ahead of NOT, crank(" + wrong + ")", () -> three(1, 0), x -> x.crank(wrong), BAD);
            e.refused("BAD ahead of NOT, ODD RING, crank(" + wrong + ")", CranksBoundaries::oddRing, x -> x.crank(wrong), BAD);
        }
    }

    private void promise14None() {
        e.sentence(14, "NONE: THE TRAIN is empty;");
        for (int teeth : new int[] {-99, -1, 0, 1, 99}) {
            e.refused("crank(" + teeth + ")", ToothStones::new, x -> x.crank(teeth), NONE);
            e.refused("twelve on THE HEAP, crank(" + teeth + ")", () -> StonesBoundaries.twelve(3, 3, 3), x -> x.crank(teeth), NONE);
        }
    }

    private void promise14Not() {
        e.sentence(14, "NOT: it is LOCKED.");
        for (int teeth : new int[] {-99, -4, -1, 1, 4, 99}) {
            for (int place = 0; place < 3; place++) {
                int its = place;
                e.refused("PAWLED at " + place + ", crank(" + teeth + ")", () -> three(1, its), x -> x.crank(teeth), NOT);
                e.refused("HEAVY at " + place + ", crank(" + teeth + ")", () -> three(3, its), x -> x.crank(teeth), NOT);
            }
            e.refused("ODD RING, crank(" + teeth + ")", CranksBoundaries::oddRing, x -> x.crank(teeth), NOT);
            ToothStones even = three(0, 0);
            even.shut(true);
            e.is("a RING that is not ODD, crank(" + teeth + ")", even.crank(teeth) >= 0 ? 1 : 0, 1);
        }
    }

    private void promise15AboveZero() {
        e.sentence(15, "RETURN: the fewest teeth above 0 of CRANK forward behind which all MARKS of THE TRAIN are as now;");
        for (int teeth = 3; teeth <= 9; teeth++) {
            for (int v = 0; v < teeth; v++) {
                ToothStones x = new ToothStones();
                x.stone(v % 2 * 2, teeth, teeth);
                x.lay(0, 0);
                x.mark(0, 0, v);
                x.mark(0, 1, teeth - 1 - v);
                e.is(teeth + " TEETH, MARKS " + Due.marks(x, 0), x.around(), teeth);
            }
        }
    }

    private void promise15Fewest() {
        e.sentence(15, "RETURN.");
        for (int first = 3; first <= 9; first++) {
            for (int second = 3; second <= 9; second++) {
                ToothStones x = new ToothStones();
                x.stone(0, first, second);
                x.lay(0, 0);
                int due = first;
                while (due % second != 0) {
                    due += first;
                }
                e.is(first + " and " + second + " TEETH", x.around(), due);
                e.is("it turns nothing", Due.marks(x, 0), 0);
            }
        }
        ToothStones all = Due.of("34,45,56,67,78,89,99");
        for (int stone = 0; stone < 7; stone++) {
            all.lay(stone, 0);
        }
        e.is("all TEETH there are", all.around(), 2520);
        ToothStones twelve = LaysBoundaries.laid(12, 0, 9, 8);
        e.is("twelve STONES", twelve.around(), 72);
        ToothStones apart = Due.of("77,33,44,55,33");
        apart.lay(1, 0);
        e.is("those of THE TRAIN alone", apart.around(), 3);
        apart.lay(2, 0);
        apart.lay(3, 0);
        e.is("of all three", apart.around(), 60);
        apart.take(1);
        e.is("one was taken", apart.around(), 12);
        apart.take(1);
        e.is("two were taken", apart.around(), 3);
    }

    private void promise15None() {
        e.sentence(15, "NONE: THE TRAIN is empty;");
        e.refused("a new object", ToothStones::new, ToothStones::around, NONE);
        e.refused("twelve STONES on THE HEAP", () -> StonesBoundaries.twelve(1, 3, 3), ToothStones::around, NONE);
    }

    private void promise15Not() {
        e.sentence(15, "NOT: CRANK forward is LOCKED.");
        for (int place = 0; place < 3; place++) {
            int its = place;
            e.refused("PAWLED at " + place, () -> three(1, its), ToothStones::around, NOT);
            e.refused("HEAVY at " + place, () -> three(3, its), ToothStones::around, NOT);
            e.is("STIFF at " + place, three(2, its).around(), 4);
        }
        e.refused("ODD RING", CranksBoundaries::oddRing, ToothStones::around, NOT);
        ToothStones even = three(0, 0);
        even.shut(true);
        e.is("a RING that is not ODD", even.around(), 4);
    }

    private void promise16ZeroToo() {
        e.sentence(16, "UP AGAIN: the fewest (0, too) behind which all are UP, or never.");
        for (int stones = 1; stones <= 12; stones++) {
            ToothStones x = LaysBoundaries.laid(stones, 0, 3, 4);
            e.is(stones + " STONES, all UP", x.up(), 0);
            x.crank(1);
            e.is(stones + " STONES, all one tooth on", x.up(), 11);
            x.crank(-2);
            e.is(stones + " STONES, all one tooth back", x.up(), 1);
        }
    }

    private void promise16Fewest() {
        e.sentence(16, "UP AGAIN.");
        for (int first = 3; first <= 9; first++) {
            for (int second = 3; second <= 9; second++) {
                for (int kind = 0; kind <= 2; kind += 2) {
                    ToothStones x = new ToothStones();
                    x.stone(kind, first, second);
                    x.lay(0, 0);
                    int around = x.around();
                    for (int back = 0; back < around; back++) {
                        e.is(first + " and " + second + " TEETH, KIND " + kind + ", " + back + " back", x.up(), back);
                        x.crank(-1);
                    }
                    e.is("all the way back", x.up(), 0);
                }
            }
        }
        ToothStones all = Due.of("56,67,78,89");
        for (int stone = 0; stone < 4; stone++) {
            all.lay(stone, 0);
        }
        for (int stone = 0; stone < 4; stone++) {
            all.mark(stone, 0, 1);
            all.mark(stone, 1, 4 + stone + 1);
        }
        e.is("the most teeth there are: all one tooth on", all.up(), 2519);
        e.is("it turns nothing", Due.allMarks(all), 15_16_17_18);
    }

    private void promise16None() {
        e.sentence(16, "NONE: THE TRAIN is empty;");
        e.refused("a new object", ToothStones::new, ToothStones::up, NONE);
        e.refused("twelve STONES on THE HEAP", () -> StonesBoundaries.twelve(3, 3, 3), ToothStones::up, NONE);
    }

    private void promise16Not() {
        e.sentence(16, "NOT: CRANK forward is LOCKED;");
        for (int place = 0; place < 3; place++) {
            int its = place;
            e.refused("PAWLED at " + place, () -> three(1, its), ToothStones::up, NOT);
            e.refused("HEAVY at " + place, () -> three(3, its), ToothStones::up, NOT);
        }
        e.refused("ODD RING", CranksBoundaries::oddRing, ToothStones::up, NOT);
        e.refused("LOCKED, though all are UP", () -> LaysBoundaries.laid(12, 1, 3, 3), ToothStones::up, NOT);
        ToothStones odd = LaysBoundaries.laid(3, 2, 3, 3);
        odd.shut(true);
        e.is("ODD RING, though all are UP", odd.up(), NOT);
        ToothStones never = Due.of("33p@11");
        never.lay(0, 0);
        e.is("NOT ahead of NONE: never", never.up(), NOT);
    }

    private void promise16Never() {
        e.sentence(16, "NONE: never.");
        for (int teeth = 3; teeth <= 9; teeth++) {
            for (int first = 0; first < teeth; first++) {
                for (int second = 0; second < teeth; second++) {
                    ToothStones x = new ToothStones();
                    x.stone(0, teeth, teeth);
                    x.lay(0, 0);
                    x.mark(0, 0, first);
                    x.mark(0, 1, second);
                    // behind so many teeth FRONT is UP, and BACK has gone back as many
                    int teethOfFront = (teeth - first) % teeth;
                    e.is(teeth + " TEETH, MARKS " + first + " and " + second, x.up(), second == teethOfFront ? teethOfFront : NONE);
                }
            }
        }
        e.refused("never", () -> {
            ToothStones x = three(0, 0);
            x.mark(2, 1, 2);
            return x;
        }, ToothStones::up, NONE);
        for (int stones = 1; stones <= 12; stones++) {
            for (int wheel = 0; wheel < 2 * stones; wheel++) {
                ToothStones x = LaysBoundaries.laid(stones, 0, 3, 4);
                // WHEELS of as many TEETH go by as many teeth: this one is never UP with those that are UP now
                x.mark(wheel / 2, wheel % 2, 1);
                int alone = wheel % 2 == 0 ? 8 : 9;
                e.is(stones + " STONES, MARK 1 of WHEEL " + wheel, x.up(), stones == 1 ? alone : NONE);
            }
        }
        // TEETH of the STONES behind it are others, so theirs could be UP once more
        for (String text : new String[] {"33,35", "44,57", "66,67,75", "99,89,78,57"}) {
            ToothStones x = Due.of(text);
            for (int stone = 0; stone < x.count(0); stone++) {
                x.lay(stone, 0);
            }
            for (int stone = 0; stone < x.count(0); stone++) {
                x.mark(stone, 0, stone == 0 ? 1 : 0);
                x.mark(stone, 1, stone == 0 ? 1 : 0);
            }
            e.is(text + ", the first of these never", x.up(), NONE);
            x.mark(0, 1, 0);
            e.is(text + ", the first of these never, its BACK is UP", x.up(), NONE);
        }
        ToothStones sixNine = Due.of("69@12");
        sixNine.lay(0, 0);
        e.is("6 and 9 TEETH, 5 and 2 teeth to go", sixNine.up(), 11);
        sixNine.mark(0, 1, 3);
        e.is("6 and 9 TEETH, 5 and 3 teeth to go: never", sixNine.up(), NONE);
    }

    private void promise18ZeroToo() {
        e.sentence(18, "POINT: the fewest teeth (0, too) of CRANK forward behind which the BACK of a STONE of THE TRAIN has a told "
                + "MARK.");
        for (int teeth = 3; teeth <= 9; teeth++) {
            for (int v = 0; v < teeth; v++) {
                for (int front = 0; front < 2; front++) {
                    ToothStones x = new ToothStones();
                    x.stone(0, front == 0 ? 9 : teeth, front == 0 ? teeth : 9);
                    x.lay(0, front);
                    x.mark(0, 1 - front, v);
                    e.is(teeth + " TEETH, point(0, " + v + ") as it is", x.point(0, v), 0);
                    e.is(teeth + " TEETH, one back", x.point(0, (v + teeth - 1) % teeth), 1);
                    e.is(teeth + " TEETH, one on", x.point(0, (v + 1) % teeth), teeth - 1);
                }
            }
        }
    }

    private void promise18Fewest() {
        e.sentence(18, "POINT: teeth.");
        for (int stiff = 0; stiff < 2; stiff++) {
            ToothStones x = LaysBoundaries.laid(12, 2 * stiff, 9, 9);
            for (int stone = 0; stone < 12; stone++) {
                for (int v = 0; v < 9; v++) {
                    // BACKS go backward, but of a row of STIFF ones one forward, the next one backward
                    boolean isForward = stiff == 1 && stone % 2 == 0;
                    e.is("STIFF " + stiff + ", point(" + stone + ", " + v + ")", x.point(stone, v), isForward ? v : (9 - v) % 9);
                }
            }
            e.is("it turns nothing", x.count(6), 24);
        }
    }

    private void promise18Bad() {
        e.sentence(18, "BAD: also a STONE not laid, a MARK not below its TEETH;");
        for (int wrong : new int[] {LEAST, -7, -1, 7, 8, 12, MOST}) {
            e.refused("point(" + wrong + ", 0)", StonesBoundaries::some, x -> x.point(wrong, 0), BAD);
        }
        for (int wrong : new int[] {LEAST, -4, -1}) {
            for (int stone = 0; stone < 3; stone++) {
                int laid = stone;
                e.refused("point(" + stone + ", " + wrong + ")", StonesBoundaries::some, x -> x.point(laid, wrong), BAD);
            }
        }
    }

    private void promise18NotLaid() {
        e.sentence(18, "BAD: also a STONE not laid, a MARK not below its TEETH;");
        for (int stone = 3; stone < 7; stone++) {
            int notLaid = stone;
            e.refused("point(" + stone + ", 0)", StonesBoundaries::some, x -> x.point(notLaid, 0), BAD);
        }
        ToothStones x = StonesBoundaries.some();
        e.is("laid", x.point(2, 0) >= 0 ? 1 : 0, 1);
        x.take(1);
        e.is("taken", x.point(2, 0), BAD);
        ToothStones locked = three(1, 0);
        locked.stone(0, 4, 4);
        e.is("BAD ahead of NOT: not laid", locked.point(3, 0), BAD);
    }

    private void promise18MarkBelowTeeth() {
        e.sentence(18, "BAD: also a STONE not laid, a MARK not below its TEETH;");
        for (int teeth = 3; teeth <= 9; teeth++) {
            for (int front = 0; front < 2; front++) {
                // its FRONT has 9 TEETH, or 3: those of the BACK bound the MARK
                int other = teeth == 9 ? 3 : 9;
                int first = front == 0 ? other : teeth, second = front == 0 ? teeth : other, by = front;
                for (int v : new int[] {0, teeth - 1}) {
                    ToothStones x = new ToothStones();
                    x.stone(0, first, second);
                    x.lay(0, front);
                    e.is(teeth + " TEETH of the BACK, point(0, " + v + ")", x.point(0, v), (teeth - v) % teeth);
                }
                for (int v : new int[] {-1, teeth, teeth + 1, MOST}) {
                    for (int kind = 0; kind < 2; kind++) {
                        int its = kind;
                        e.refused(teeth + " TEETH of the BACK, KIND " + kind + ", point(0, " + v + ")", () -> {
                            ToothStones x = new ToothStones();
                            x.stone(its, first, second);
                            x.lay(0, by);
                            return x;
                        }, x -> x.point(0, v), BAD);
                    }
                }
            }
        }
    }

    private void promise18Not() {
        e.sentence(18, "NOT: CRANK forward is LOCKED.");
        for (int stone = 0; stone < 3; stone++) {
            for (int v = 0; v < 4; v++) {
                int its = stone, told = v;
                // a MARK of 3 it has: 0 teeth would do, but CRANK is LOCKED
                e.refused("PAWLED, point(" + stone + ", " + v + ")", () -> three(1, 2), x -> x.point(its, told), NOT);
                e.refused("HEAVY, point(" + stone + ", " + v + ")", () -> three(3, 0), x -> x.point(its, told), NOT);
                e.refused("ODD RING, point(" + stone + ", " + v + ")", CranksBoundaries::oddRing, x -> x.point(its, told), NOT);
            }
        }
        ToothStones even = three(0, 0);
        even.shut(true);
        e.is("a RING that is not ODD", even.point(2, 3), 0);
    }
}
