import java.math.BigInteger;

/** Boundary cases of promises 17 and 19 to 22: BEST, MATCHES, THE DRAW, IMAGES. */
final class BestBoundaries {
    private static final int BAD = ToothStones.BAD, NOT = ToothStones.NOT, NONE = ToothStones.NONE;
    private static final int LEAST = Integer.MIN_VALUE, MOST = Integer.MAX_VALUE;
    private static final String BEST = "BEST of a HAND: of its STONES that MAY be laid, by either WHEEL as FRONT, that by which its "
        + "SCORE, less the greatest SCORE of a LAY of the other HAND behind it (0, if none MAY be), is most; of like ones the "
        + "first by STONE, then by FRONT.";
    private static final String DRAWN = "A MATCH of n turns: one behind the other from HAND 0 on each lays one drawn of all its LAYS "
        + "that MAY be (by STONE, then FRONT 0, 1); who has none passes; each time one is drawn THE DRAW becomes the lowest 31 "
        + "bits of itself times 1103515245 and 12345 more, and that by 65536 (cut), as a remainder by how many LAYS there are, is "
        + "how many of these lie ahead of it.";

    private final Edges e;

    BestBoundaries(Edges e) {
        this.e = e;
    }

    void all() {
        promise17MostAndLeastWorth();
        promise17NoneOfTheOther();
        promise17TheGreatestAnswer();
        promise17LikeOnes();
        promise17EitherWheel();
        promise17ChangesNothing();
        promise17Bad();
        promise17Not();
        promise17None();
        promise19Turns();
        promise19Passes();
        promise19Remainder();
        promise19ThirtyOneBits();
        promise19LaysByStoneThenFront();
        promise19Bad();
        promise19Not();
        promise20WhatItWas();
        promise20Bad();
        promise21AllButSheetsAndTape();
        promise21TheNewest();
        promise22EmptyAndFull();
        promise22Again();
        promise22None();
    }

    /** STONES of TEETH 3 and 3, one for each sign: a digit of its HAND, or '-' for THE HEAP. */
    private static ToothStones dealt(int kind, String hands) {
        ToothStones x = new ToothStones();
        for (int stone = 0; stone < hands.length(); stone++) {
            x.stone(kind, 3, 3);
            if (hands.charAt(stone) != '-') {
                x.deal(stone, hands.charAt(stone) - '0');
            }
        }
        return x;
    }

    private void best(String call, ToothStones x, int hand, int stone, int front, int worth) {
        e.is(call + ", STONE", x.best(hand, 0), stone);
        e.is(call + ", FRONT", x.best(hand, 1), front);
        e.is(call + ", worth and 100", x.best(hand, 2), worth + 100);
    }

    private void promise17MostAndLeastWorth() {
        e.sentence(17, "BEST of a HAND: the STONE (0), its FRONT (1), what it is worth and 100 (2).");
        for (int hand = 0; hand < 2; hand++) {
            ToothStones most = LaysBoundaries.laid(11, 3, 3, 3);
            most.deal(11, hand);
            best("twelve HEAVY ones, all UP", most, hand, 11, 0, 24);
            // the turn of the first LAY is turned back by the second: then HAND's STONE comes UP, and the other's is HEAVY
            ToothStones least = new ToothStones();
            for (int stone = 0; stone < 11; stone++) {
                least.stone(2, 3, 3);
            }
            least.stone(3, 3, 3);
            for (int stone = 0; stone < 10; stone++) {
                least.lay(stone, 0);
            }
            for (int wheel = 0; wheel < 20; wheel++) {
                least.mark(wheel / 2, wheel % 2, 0);
            }
            least.mark(10, 0, 2);
            least.mark(10, 1, 2);
            least.deal(10, hand);
            least.deal(11, 1 - hand);
            best("all UP for the other HAND", least, hand, 10, 0, -13);
        }
    }

    private void promise17NoneOfTheOther() {
        e.sentence(17, BEST);
        best("the other HAND is empty", dealt(1, "0-"), 0, 0, 0, 0);
        ToothStones two = dealt(1, "-0-");
        two.lay(0, 0);
        best("the other HAND is empty, a LAY that SCORES", two, 0, 1, 0, 2);
        ToothStones far = Due.of("33p,33p,55");
        far.deal(1, 0);
        far.deal(2, 1);
        far.lay(0, 0);
        best("none of the other HAND MAY be", far, 0, 1, 0, 2);
        ToothStones near = Due.of("33p,33p,45");
        near.deal(1, 0);
        near.deal(2, 1);
        near.lay(0, 0);
        best("one of the other HAND MAY be", near, 0, 1, 0, 2 - 3);
        ToothStones all = dealt(1, "0101");
        all.lay(0, 0);
        all.lay(1, 0);
        best("3 STONES, and 4 of the other", all, 0, 2, 0, 3 - 4);
        best("3 STONES, and 4 of the other", all, 1, 3, 0, 3 - 4);
    }

    private void promise17TheGreatestAnswer() {
        e.sentence(17, BEST);
        for (int answer = 0; answer < 11; answer++) {
            for (int front = 0; front < 2; front++) {
                // STONE 11 lies, 10 or 9 is HAND 1's; of HAND 0's LAYS behind it one alone MAY be, by one FRONT, and is HEAVY
                int own = answer == 10 ? 9 : 10;
                ToothStones x = new ToothStones();
                for (int stone = 0; stone < 12; stone++) {
                    if (stone == answer) {
                        x.stone(3, front == 0 ? 3 : 9, front == 0 ? 9 : 3);
                    } else {
                        x.stone(1, stone == own || stone == 11 ? 3 : 9, stone == own || stone == 11 ? 3 : 9);
                    }
                    x.deal(stone, stone == own ? 1 : 0);
                }
                x.lay(11, 0);
                best("STONE " + answer + " by FRONT " + front + " answers", x, 1, own, 0, 2 - 4);
                for (int stone = 0; stone < 11; stone++) {
                    x.deal(stone, stone == own ? 0 : 1);
                }
                best("likewise of HAND 1", x, 0, own, 0, 2 - 4);
            }
        }
        ToothStones x = dealt(1, "-0111");
        x.lay(0, 0);
        x.mark(2, 0, 1);
        x.mark(4, 1, 2);
        best("one of them is all UP", x, 0, 1, 0, 2 - 3);
        x.mark(3, 0, 1);
        best("none of them is all UP", x, 0, 1, 0, 2);
    }

    private void promise17LikeOnes() {
        e.sentence(17, BEST);
        for (int stone = 0; stone < 12; stone++) {
            StringBuilder hands = new StringBuilder("------------");
            for (int i = stone; i < 12; i++) {
                hands.setCharAt(i, '1');
            }
            best("the first of " + (12 - stone), dealt(0, hands.toString()), 1, stone, 0, 0);
        }
        ToothStones x = Due.of("33p,33p@10,33p@10,33p,33p,33h,33h");
        for (int stone = 1; stone < 7; stone++) {
            x.deal(stone, 0);
        }
        x.lay(0, 0);
        best("3 is more than 2 and 0: the first of it", x, 0, 5, 0, 3);
        x.deal(5, -1);
        best("the next of it", x, 0, 6, 0, 3);
        x.deal(6, -1);
        best("2 is more than 0: the first of it", x, 0, 3, 0, 2);
        x.deal(3, -1);
        x.deal(4, -1);
        best("0: the first of it", x, 0, 1, 0, 0);
        ToothStones minus = Due.of("33s@22,33@11,33@22,33");
        minus.deal(0, 0);
        minus.deal(3, 1);
        best("the first and only, though it is below 0", minus, 0, 0, 0, -2);
        minus.deal(2, 0);
        best("one of 0 behind one below 0", minus, 0, 2, 0, 0);
        minus.deal(1, 0);
        best("one of 0 ahead of that", minus, 0, 1, 0, 0);
    }

    private void promise17EitherWheel() {
        e.sentence(17, BEST);
        ToothStones x = Due.of("35,95,56,59,99");
        for (int stone = 1; stone < 5; stone++) {
            x.deal(stone, 0);
        }
        x.lay(0, 0);
        best("by STONE, its FRONT 0 MAY not be", x, 0, 1, 1, 0);
        x.deal(1, -1);
        best("then by FRONT 0", x, 0, 2, 0, 0);
        ToothStones back = Due.of("33@12,33@11,33");
        back.deal(0, 0);
        back.deal(1, 0);
        back.deal(2, 1);
        best("by FRONT 1 if that is worth more", back, 0, 0, 1, 0);
    }

    private void promise17ChangesNothing() {
        e.sentence(17, BEST);
        for (int what = 0; what < 3; what++) {
            for (int hand = 0; hand < 2; hand++) {
                ToothStones x = StonesBoundaries.some();
                x.best(hand, what);
                e.same("best(" + hand + ", " + what + ")", Edges.all(x), Edges.all(StonesBoundaries.some()));
            }
        }
    }

    private static ToothStones ring() {
        ToothStones x = StonesBoundaries.some();
        x.shut(true);
        return x;
    }

    private void promise17Bad() {
        e.sentence(17, "BAD;");
        for (int wrong : new int[] {LEAST, -2, -1, 2, 3, MOST}) {
            e.refused("best(" + wrong + ", 0)", StonesBoundaries::some, x -> x.best(wrong, 0), BAD);
            e.refused("BAD ahead of NOT, best(" + wrong + ", 0)", BestBoundaries::ring, x -> x.best(wrong, 0), BAD);
            e.refused("BAD ahead of NONE, best(" + wrong + ", 0)", ToothStones::new, x -> x.best(wrong, 0), BAD);
        }
        for (int wrong : new int[] {LEAST, -2, -1, 3, 4, MOST}) {
            e.refused("best(1, " + wrong + ")", StonesBoundaries::some, x -> x.best(1, wrong), BAD);
            e.refused("BAD ahead of NOT, best(1, " + wrong + ")", BestBoundaries::ring, x -> x.best(1, wrong), BAD);
            e.refused("BAD ahead of NONE, best(1, " + wrong + ")", ToothStones::new, x -> x.best(1, wrong), BAD);
        }
    }

    private void promise17Not() {
        e.sentence(17, "NOT: THE RING is shut;");
        for (int hand = 0; hand < 2; hand++) {
            for (int what = 0; what < 3; what++) {
                int of = hand, its = what;
                e.refused("best(" + hand + ", " + what + ")", BestBoundaries::ring, x -> x.best(of, its), NOT);
                e.refused("NOT ahead of NONE, best(" + hand + ", " + what + ")", () -> {
                    ToothStones x = LaysBoundaries.laid(12, 0, 3, 3);
                    x.shut(true);
                    return x;
                }, x -> x.best(of, its), NOT);
            }
        }
        ToothStones x = ring();
        x.shut(false);
        e.is("open again", x.best(0, 0), 3);
    }

    private static ToothStones farAway() {
        ToothStones x = Due.of("33,55,99");
        x.deal(1, 0);
        x.deal(2, 0);
        x.lay(0, 0);
        return x;
    }

    private void promise17None() {
        e.sentence(17, "NONE: none MAY be laid.");
        for (int hand = 0; hand < 2; hand++) {
            for (int what = 0; what < 3; what++) {
                int of = hand, its = what;
                e.refused("no STONE, best(" + hand + ", " + what + ")", ToothStones::new, x -> x.best(of, its), NONE);
                e.refused("all on THE HEAP", () -> StonesBoundaries.twelve(0, 3, 3), x -> x.best(of, its), NONE);
                e.refused("all laid", () -> LaysBoundaries.laid(12, 0, 3, 3), x -> x.best(of, its), NONE);
                e.refused("the other HAND has all", () -> dealt(0, of == 0 ? "111111111111" : "000000000000"),
                        x -> x.best(of, its), NONE);
                e.refused("its STONES MAY not", BestBoundaries::farAway, x -> x.best(of, its), NONE);
            }
        }
    }

    /** The number that becomes next when it is drawn. */
    private static int ahead(long next) {
        BigInteger bits = BigInteger.ONE.shiftLeft(31);
        BigInteger less = BigInteger.valueOf(next - 12345);
        return less.multiply(BigInteger.valueOf(1103515245).modInverse(bits)).mod(bits).intValueExact();
    }

    private static long drawn(long draw) {
        return BigInteger.valueOf(draw).multiply(BigInteger.valueOf(1103515245)).add(BigInteger.valueOf(12345))
            .mod(BigInteger.ONE.shiftLeft(31)).longValueExact();
    }

    private void promise19Turns() {
        e.sentence(19, "A MATCH of n (1 .. 24) turns, passes too: how many STONES are laid.");
        for (int n = 1; n <= 24; n++) {
            int ofHand0 = (n + 1) / 2, ofHand1 = n / 2;
            e.is("twelve of HAND 0, match(" + n + ")", dealt(0, "000000000000").match(n), ofHand0);
            e.is("twelve of HAND 1, match(" + n + ")", dealt(0, "111111111111").match(n), ofHand1);
            e.is("six of each, match(" + n + ")", dealt(0, "010101010101").match(n), Math.min(n, 12));
            e.is("one of HAND 1, match(" + n + ")", dealt(0, "1").match(n), n > 1 ? 1 : 0);
            e.is("none, match(" + n + ")", dealt(0, "------------").match(n), 0);
        }
        ToothStones x = dealt(0, "000000000000");
        e.is("the first of two MATCHES", x.match(9), 5);
        e.is("the second, of those that it laid", x.match(24), 7);
        e.is("a third: none is left", x.match(24), 0);
        e.is("in THE TRAIN", x.count(1), 12);
    }

    private void promise19Passes() {
        e.sentence(19, DRAWN);
        for (String hands : new String[] {"", "-", "------------"}) {
            ToothStones x = dealt(0, hands);
            x.match(24);
            e.is("who passes draws nothing, '" + hands + "'", x.seed(0), 1);
        }
        for (int stones = 1; stones <= 12; stones++) {
            ToothStones x = dealt(0, "010101010101".substring(0, stones));
            x.match(24);
            long draw = 1;
            for (int i = 0; i < stones; i++) {
                draw = drawn(draw);
            }
            e.is("so many times as STONES were laid, " + stones, x.seed(0), draw);
        }
        ToothStones one = Due.of("33,39");
        one.lay(0, 0);
        one.deal(1, 0);
        e.is("one LAY alone", one.match(1), 1);
        e.is("it is drawn, too", one.seed(0), drawn(1));
        ToothStones far = farAway();
        e.is("none MAY be", far.match(24), 0);
        e.is("nothing is drawn", far.seed(0), 1);
    }

    private void promise19Remainder() {
        e.sentence(19, DRAWN);
        for (int stones = 1; stones <= 12; stones++) {
            int lays = 2 * stones;
            String hands = "000000000000".substring(0, stones);
            for (int by = 0; by <= lays + 1; by++) {
                for (int rest : new int[] {0, 1, 65535}) {
                    ToothStones x = dealt(0, hands);
                    long next = 65536L * by + rest;
                    x.seed(ahead(next));
                    x.match(1);
                    int lay = by % lays;
                    String call = "of " + lays + " LAYS, DRAW " + next;
                    e.is(call + ", STONE " + lay / 2, x.told(lay / 2, 5), 0);
                    e.is(call + ", FRONT", x.told(lay / 2, 6), lay % 2);
                    e.is(call + ", THE DRAW", x.seed(0), next);
                }
            }
            for (long next : new long[] {MOST, MOST - 65535L, MOST - 65536L}) {
                ToothStones x = dealt(0, hands);
                x.seed(ahead(next));
                x.match(1);
                int lay = (int) (next / 65536 % lays);
                e.is("of " + lays + " LAYS, DRAW " + next, x.told(lay / 2, 6), lay % 2);
                e.is("THE DRAW", x.seed(0), next);
            }
        }
    }

    private void promise19ThirtyOneBits() {
        e.sentence(19, "DRAWN: THE DRAW is a number of 31 bits");
        for (int draw : new int[] {0, 1, 2, 3, 0x3fffffff, 0x40000000, MOST - 1, MOST, ahead(0), ahead(MOST), ahead(1L << 30)}) {
            ToothStones alone = dealt(0, "000000000000");
            alone.seed(draw);
            long next = draw;
            for (int i = 0; i < 12; i++) {
                alone.match(1);
                next = drawn(next);
                e.is("behind " + draw + ", drawn " + (i + 1) + " times", alone.seed((int) next), next);
            }
        }
    }

    private void promise19LaysByStoneThenFront() {
        e.sentence(19, DRAWN);
        // behind 4 TEETH: 33 by both, 59 by FRONT 0, 93 by FRONT 1, 99 by none, 55 by both
        int[][] lays = {{1, 0}, {1, 1}, {2, 0}, {3, 1}, {5, 0}, {5, 1}};
        for (int i = 0; i < 2 * lays.length; i++) {
            ToothStones x = Due.of("44,33,59,93,99,55,44,44");
            for (int stone = 1; stone < 6; stone++) {
                x.deal(stone, 0);
            }
            x.deal(6, 1);
            x.lay(0, 0);
            x.seed(ahead(65536L * i));
            e.is("the LAY behind " + i, x.match(1), 1);
            int[] due = lays[i % lays.length];
            e.is("STONE " + due[0], x.told(due[0], 5), 1);
            e.is("its FRONT", x.told(due[0], 6), due[1]);
            e.is("one alone", x.count(1), 2);
        }
    }

    private void promise19Bad() {
        e.sentence(19, "BAD;");
        for (int wrong : new int[] {LEAST, -24, -1, 0, 25, 26, 256 + 1, MOST}) {
            e.refused("match(" + wrong + ")", StonesBoundaries::some, x -> x.match(wrong), BAD);
            e.refused("BAD ahead of NOT, match(" + wrong + ")", BestBoundaries::ring, x -> x.match(wrong), BAD);
        }
    }

    private void promise19Not() {
        e.sentence(19, "NOT: THE RING is shut.");
        for (int n : new int[] {1, 2, 23, 24}) {
            e.refused("match(" + n + ")", BestBoundaries::ring, x -> x.match(n), NOT);
        }
        e.refused("though none is left", () -> {
            ToothStones x = LaysBoundaries.laid(12, 0, 3, 3);
            x.shut(true);
            return x;
        }, x -> x.match(24), NOT);
        ToothStones x = ring();
        x.shut(false);
        e.is("open again", x.match(24) > 0 ? 1 : 0, 1);
    }

    private void promise20WhatItWas() {
        e.sentence(20, "THE DRAW becomes v: what it was.");
        ToothStones x = new ToothStones();
        int was = 1;
        for (int v : new int[] {0, 0, MOST, 1, MOST - 1, 1 << 30, 65535, 65536, 0}) {
            e.is("seed(" + v + ")", x.seed(v), was);
            was = v;
        }
    }

    private void promise20Bad() {
        e.sentence(20, "BAD: below 0.");
        for (int wrong : new int[] {LEAST, LEAST + 1, -65536, -14, -2, -1}) {
            e.refused("seed(" + wrong + ")", StonesBoundaries::some, x -> x.seed(wrong), BAD);
        }
        e.is("0 is not", StonesBoundaries.some().seed(0), 77);
        e.is("nor the most", StonesBoundaries.some().seed(MOST), 77);
    }

    private void promise21AllButSheetsAndTape() {
        e.sentence(21, "All but SHEETS, THE TAPE is kept as an IMAGE: 1.");
        ToothStones x = StonesBoundaries.some();
        x.shut(true);
        String kept = Edges.table(x);
        e.is("image()", x.image(), 1);
        x.shut(false);
        x.match(24);
        x.take(2);
        x.stone(0, 5, 5);
        x.mark(0, 0, 0);
        x.sheet(0, 2, 24);
        x.drop(1);
        x.sheet(3, 1, 0);
        Due.typed(x, "67s@56");
        e.is("restore()", x.restore(), 1);
        e.same("the table", Edges.table(x), kept);
        e.is("SHEET 0 is the new one", x.drop(0), 24);
        e.is("SHEET 1 stays dropped", x.drop(1), ToothStones.NULL);
        e.is("SHEET 3 is the new one", x.drop(3), 0);
        e.is("SHEET 2 stays", x.drop(2), 5);
        e.is("THE TAPE stays", x.stones(), 2);
        e.is("its STONES", 10 * x.told(1, 1) + x.told(1, 2), 67);
        for (int call = 0; call < 3; call++) {
            e.is("image() again", x.image(), 1);
        }
    }

    private void promise21TheNewest() {
        e.sentence(21, "All but SHEETS, THE TAPE is kept as an IMAGE: 1.");
        ToothStones x = StonesBoundaries.some();
        x.image();
        x.take(3);
        x.image();
        x.lay(5, 0);
        x.restore();
        e.is("the newest IMAGE", x.count(1), 0);
    }

    private void promise22EmptyAndFull() {
        e.sentence(22, "All is as it was then: 1.");
        ToothStones empty = new ToothStones();
        String nothing = Edges.table(empty);
        empty.image();
        for (int stone = 0; stone < 12; stone++) {
            empty.stone(3, 9, 9);
            empty.deal(stone, 1);
            empty.lay(stone, 1);
        }
        empty.shut(true);
        empty.seed(MOST);
        e.is("restore() of nothing", empty.restore(), 1);
        e.same("no STONE", Edges.table(empty), nothing);
        ToothStones full = LaysBoundaries.laid(12, 3, 9, 9);
        full.shut(true);
        full.seed(MOST);
        String all = Edges.table(full);
        full.image();
        Due.read(full, "33");
        full.seed(0);
        e.is("restore() of twelve", full.restore(), 1);
        e.same("all twelve", Edges.table(full), all);
        e.is("they are FULL", full.stone(0, 3, 3), ToothStones.FULL);
    }

    private void promise22Again() {
        e.sentence(22, "All is as it was then: 1.");
        ToothStones x = StonesBoundaries.some();
        x.image();
        String kept = Edges.table(x);
        for (int call = 0; call < 3; call++) {
            e.is("restore()", x.restore(), 1);
            e.same("the table", Edges.table(x), kept);
            x.take(3);
            x.mark(0, 0, (call + 1) % 3);
            x.deal(3, call - 1);
            x.seed(call);
        }
    }

    private void promise22None() {
        e.sentence(22, "NONE: there is none.");
        e.refused("a new object", ToothStones::new, ToothStones::restore, NONE);
        e.refused("twelve STONES", () -> LaysBoundaries.laid(12, 0, 3, 3), ToothStones::restore, NONE);
        ToothStones x = new ToothStones();
        e.is("restore()", x.restore(), NONE);
        x.image();
        e.is("there is one", x.restore(), 1);
        e.is("there still is", x.restore(), 1);
    }
}
