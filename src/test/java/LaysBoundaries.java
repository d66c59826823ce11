/** Boundary cases of promises 9 to 12: what MAY be laid, LAYS and their SCORES, what is taken, THE RING. */
final class LaysBoundaries {
    private static final int BAD = ToothStones.BAD, NOT = ToothStones.NOT, NONE = ToothStones.NONE;
    private static final int LEAST = Integer.MIN_VALUE, MOST = Integer.MAX_VALUE;

    private final Edges e;

    LaysBoundaries(Edges e) {
        this.e = e;
    }

    void all() {
        promise9EmptyTrain();
        promise9TeethNear();
        promise9FirstFront();
        promise9Whether();
        promise9Bad();
        promise9Laid();
        promise9Ring();
        promise10ScoresFor();
        promise10Bad();
        promise10Not();
        promise10None();
        promise10TheseAloneTurn();
        promise10LockedDoesNothing();
        promise10RoundByTeeth();
        promise10TwoStonesOrMore();
        promise10AllUp();
        promise10HeavyTwice();
        promise10HandOfTheStone();
        promise11HowManyLieThen();
        promise11MarksStayAndRingOpens();
        promise11Bad();
        promise11Not();
        promise12WhetherItWas();
        promise12ThreeStonesOrMore();
        promise12TeethNear();
        promise12Not();
    }

    /** STONES told as some(), THE RING of its three laid ones shut: two of them FREE, one STIFF, so it is ODD. */
    private static ToothStones ring() {
        ToothStones x = StonesBoundaries.some();
        x.shut(true);
        return x;
    }

    /** n STONES of a KIND and TEETH laid by FRONT 0, the others of twelve not; MARKS are all UP. */
    static ToothStones laid(int n, int kind, int first, int second) {
        ToothStones x = StonesBoundaries.twelve(kind, first, second);
        for (int stone = 0; stone < n; stone++) {
            x.lay(stone, 0);
        }
        for (int stone = 0; stone < n; stone++) {
            x.mark(stone, 0, 0);
            x.mark(stone, 1, 0);
        }
        return x;
    }

    private void promise9EmptyTrain() {
        e.sentence(9, "A STONE MAY be laid to it, if the TRAIN is empty,");
        ToothStones x = Due.of("39,93,66");
        for (int stone = 0; stone < 3; stone++) {
            for (int front = 0; front < 2; front++) {
                e.is("may(" + stone + ", " + front + ")", x.may(stone, front), 1);
            }
        }
        x.lay(0, 0);
        e.is("no more empty", x.may(2, 0), 0);
        x.take(1);
        e.is("empty again", x.may(2, 0), 1);
        e.is("and laid", x.lay(2, 0), 0);
    }

    private void promise9TeethNear() {
        e.sentence(9, "or its FRONT has as many TEETH as the last BACK, or 1 more, or 1 less.");
        for (int back = 3; back <= 9; back++) {
            for (int front = 3; front <= 9; front++) {
                int due = front - back >= -1 && front - back <= 1 ? 1 : 0;
                // the WHEELS that do not meet have TEETH that would change the answer
                int other = due == 1 ? (back < 6 ? 9 : 3) : back;
                for (int lastFront = 0; lastFront < 2; lastFront++) {
                    for (int newFront = 0; newFront < 2; newFront++) {
                        ToothStones x = new ToothStones();
                        x.stone(0, lastFront == 0 ? other : back, lastFront == 0 ? back : other);
                        x.stone(0, newFront == 0 ? front : other, newFront == 0 ? other : front);
                        x.lay(0, lastFront);
                        String call = "behind " + back + " TEETH " + front + ", by " + lastFront + " and " + newFront;
                        e.is(call, x.may(1, newFront), due);
                        e.is(call + ", laid", x.lay(1, newFront), due == 1 ? 0 : NONE);
                    }
                }
            }
        }
    }

    private void promise9FirstFront() {
        e.sentence(9, "THE TRAIN is a row of STONES laid, each on one of its WHEELS (its FRONT) to the other WHEEL (the BACK) "
                + "of the one before; the first one's FRONT meshes with nothing.");
        ToothStones x = Due.of("39,99,33");
        x.lay(0, 0);
        e.is("3 TEETH do not mesh with the first FRONT of 3", x.may(2, 0), 0);
        e.is("9 TEETH mesh with its BACK", x.may(1, 0), 1);
        ToothStones alone = laid(1, 0, 3, 3);
        e.is("it alone turns as it is cranked", alone.crank(1), 0);
        e.is("FRONT forward, BACK backward", Due.marks(alone, 0), 12);
        ToothStones three = laid(3, 2, 3, 3);
        e.is("three STIFF ones, but no RING", three.locked(), 0);
    }

    private void promise9Whether() {
        e.sentence(9, "Whether a STONE MAY be laid by a FRONT (1, 0).");
        ToothStones x = StonesBoundaries.some();
        // behind 4 TEETH; 3: 43h, 4: 56p, 5: 44, 6: 33
        int[][] due = {{1, 1}, {1, 0}, {1, 1}, {1, 1}};
        for (int stone = 3; stone < 7; stone++) {
            for (int front = 0; front < 2; front++) {
                e.is("may(" + stone + ", " + front + ")", x.may(stone, front), due[stone - 3][front]);
            }
        }
        e.same("it lays nothing", Edges.all(x), Edges.all(StonesBoundaries.some()));
    }

    private void promise9Bad() {
        e.sentence(9, "BAD;");
        for (int wrong : new int[] {LEAST, -7, -1, 7, 8, 12, MOST}) {
            e.refused("may(" + wrong + ", 0)", StonesBoundaries::some, x -> x.may(wrong, 0), BAD);
            e.refused("may(" + wrong + ", 1), THE RING is shut", LaysBoundaries::ring, x -> x.may(wrong, 1), BAD);
        }
        for (int wrong : new int[] {LEAST, -2, -1, 2, 3, MOST}) {
            e.refused("may(5, " + wrong + ")", StonesBoundaries::some, x -> x.may(5, wrong), BAD);
            e.refused("BAD ahead of NOT, may(0, " + wrong + ")", StonesBoundaries::some, x -> x.may(0, wrong), BAD);
            e.refused("BAD ahead of NOT, may(5, " + wrong + ")", LaysBoundaries::ring, x -> x.may(5, wrong), BAD);
        }
    }

    private void promise9Laid() {
        e.sentence(9, "NOT: it is laid; THE RING is shut.");
        for (int stone = 0; stone < 3; stone++) {
            for (int front = 0; front < 2; front++) {
                int laid = stone, by = front;
                e.refused("may(" + stone + ", " + front + ")", StonesBoundaries::some, x -> x.may(laid, by), NOT);
            }
        }
    }

    private void promise9Ring() {
        e.sentence(9, "NOT: it is laid; THE RING is shut.");
        for (int stone = 0; stone < 7; stone++) {
            int any = stone;
            e.refused("may(" + stone + ", 1)", LaysBoundaries::ring, x -> x.may(any, 1), NOT);
        }
        ToothStones x = ring();
        x.shut(false);
        e.is("open again", x.may(5, 0), 1);
        x.shut(true);
        x.take(1);
        e.is("opened by take()", x.may(5, 0), 1);
    }

    private void promise10ScoresFor() {
        e.sentence(10, "A LAY: what it SCORES (for its HAND; on THE HEAP's for nobody).");
        for (int hand = -1; hand < 2; hand++) {
            ToothStones x = laid(11, 1, 3, 3);
            x.deal(11, hand);
            e.is("of " + hand, x.lay(11, 0), 12);
            e.is("SCORE of HAND 0", x.count(4), hand == 0 ? 12 : 0);
            e.is("SCORE of HAND 1", x.count(5), hand == 1 ? 12 : 0);
        }
    }

    private void promise10Bad() {
        e.sentence(10, "BAD;");
        for (int wrong : new int[] {LEAST, -7, -1, 7, 8, 12, MOST}) {
            e.refused("lay(" + wrong + ", 0)", StonesBoundaries::some, x -> x.lay(wrong, 0), BAD);
            e.refused("lay(" + wrong + ", 1), THE RING is shut", LaysBoundaries::ring, x -> x.lay(wrong, 1), BAD);
        }
        for (int wrong : new int[] {LEAST, -2, -1, 2, 3, MOST}) {
            e.refused("lay(5, " + wrong + ")", StonesBoundaries::some, x -> x.lay(5, wrong), BAD);
            e.refused("BAD ahead of NOT, lay(0, " + wrong + ")", StonesBoundaries::some, x -> x.lay(0, wrong), BAD);
            e.refused("BAD ahead of NOT, lay(5, " + wrong + ")", LaysBoundaries::ring, x -> x.lay(5, wrong), BAD);
        }
    }

    private void promise10Not() {
        e.sentence(10, "NOT: it is laid, THE RING is shut;");
        for (int stone = 0; stone < 3; stone++) {
            int laid = stone;
            e.refused("laid, lay(" + stone + ", 0)", StonesBoundaries::some, x -> x.lay(laid, 0), NOT);
            e.refused("laid, lay(" + stone + ", 1)", StonesBoundaries::some, x -> x.lay(laid, 1), NOT);
        }
        for (int stone = 0; stone < 7; stone++) {
            int any = stone;
            e.refused("THE RING is shut, lay(" + stone + ", 0)", LaysBoundaries::ring, x -> x.lay(any, 0), NOT);
            e.refused("THE RING is shut, lay(" + stone + ", 1)", LaysBoundaries::ring, x -> x.lay(any, 1), NOT);
        }
        e.refused("all twelve are laid", () -> laid(12, 0, 3, 3), x -> x.lay(11, 0), NOT);
    }

    private void promise10None() {
        e.sentence(10, "NONE: it MAY not.");
        e.refused("6 TEETH behind 4", StonesBoundaries::some, x -> x.lay(4, 1), NONE);
        e.refused("NOT ahead of NONE", LaysBoundaries::ring, x -> x.lay(4, 1), NOT);
        e.is("5 TEETH behind 4", StonesBoundaries.some().lay(4, 0), 0);
    }

    private void promise10TheseAloneTurn() {
        e.sentence(10, "A LAY: the STONE comes behind THE TRAIN; if others lie there, the last BACK of these is turned "
                + "forward by a tooth (these alone turn; if that is LOCKED, nothing does).");
        ToothStones x = StonesBoundaries.twelve(0, 9, 9);
        x.lay(3, 0);
        e.is("no others lie there", Due.marks(x, 3), 0);
        x.lay(7, 1);
        e.is("the last BACK forward, its FRONT backward", Due.marks(x, 3), 81);
        e.is("the new one does not turn", Due.marks(x, 7), 0);
        e.is("nor one not laid", Due.marks(x, 0), 0);
        x.lay(0, 0);
        e.is("the BACK of the last forward, it is WHEEL 0", Due.marks(x, 7), 18);
        e.is("the one ahead of it the same way", Due.marks(x, 3), 72);
        e.is("the new one does not turn", Due.marks(x, 0), 0);
        ToothStones pawled = Due.of("33,33p,33");
        pawled.lay(0, 0);
        pawled.lay(1, 0);
        e.is("a new PAWLED one does not lock these", Due.marks(pawled, 0), 21);
    }

    private void promise10LockedDoesNothing() {
        e.sentence(10, "LOCKED is such a turn, if a WHEEL of a PAWLED or HEAVY STONE would go backward, or by an ODD RING: "
                + "then nothing turns.");
        for (String kind : new String[] {"p", "h"}) {
            for (int place = 0; place < 3; place++) {
                ToothStones x = Due.of("33" + (place == 0 ? kind : "") + ",33" + (place == 1 ? kind : "") + ",33"
                        + (place == 2 ? kind : "") + ",33");
                for (int stone = 0; stone < 3; stone++) {
                    x.lay(stone, 0);
                }
                long marks = Due.allMarks(x);
                e.is(kind + " at " + place + ", lay()", x.lay(3, 0), place == 0 ? 4 + (kind.equals("h") ? 1 : 0) : 0);
                e.is(kind + " at " + place + ", nothing turns", Due.allMarks(x), marks);
                e.is(kind + " at " + place + ", the STONE lies", x.told(3, 5), 3);
                e.is(kind + " at " + place + ", crank(1)", x.crank(1), NOT);
                e.is(kind + " at " + place + ", crank(-1)", x.crank(-1), NOT);
                e.is(kind + " at " + place + ", still nothing turns", Due.allMarks(x), marks);
            }
        }
        ToothStones ring = laid(3, 2, 5, 5);
        ring.shut(true);
        e.is("ODD RING, crank(1)", ring.crank(1), NOT);
        e.is("ODD RING, nothing turns", Due.allMarks(ring), 0);
        ToothStones stiff = laid(2, 2, 5, 5);
        e.is("STIFF alone is not LOCKED", stiff.crank(-1), 0);
    }

    private void promise10RoundByTeeth() {
        e.sentence(10, "TURNED by a tooth, forward or backward, a WHEEL turns all of THE TRAIN, each by a tooth: two that mesh "
                + "go unlike ways (FRONT and BACK of a STONE, but of a STIFF one: the same way; the BACK of one and the FRONT "
                + "of the next one). A MARK that goes forward becomes 1 more, backward 1 less, round by its TEETH.");
        for (int teeth = 3; teeth <= 9; teeth++) {
            ToothStones x = new ToothStones();
            x.stone(0, teeth, teeth);
            x.stone(2, teeth, teeth);
            x.stone(0, teeth, teeth);
            x.lay(0, 0);
            x.lay(1, 0);
            for (int stone = 0; stone < 2; stone++) {
                x.mark(stone, 0, teeth - 1);
                x.mark(stone, 1, 0);
            }
            x.lay(2, 0);
            // STONE 1 is STIFF, both of its WHEELS go forward; STONE 0: FRONT forward, BACK backward
            e.is(teeth + " TEETH, forward from the greatest", x.told(1, 3), 0);
            e.is(teeth + " TEETH, forward from 0", x.told(1, 4), 1);
            e.is(teeth + " TEETH, its FRONT forward from the greatest", x.told(0, 3), 0);
            e.is(teeth + " TEETH, its BACK backward from 0", x.told(0, 4), teeth - 1);
        }
    }

    private void promise10TwoStonesOrMore() {
        e.sentence(10, "SCORE of a LAY: if THE TRAIN then has two STONES or more and all their MARKS are UP: how many STONES, "
                + "HEAVY ones counted twice; else 0.");
        for (int kind = 1; kind <= 3; kind += 2) {
            ToothStones x = StonesBoundaries.twelve(kind, 3, 3);
            for (int stone = 0; stone < 12; stone++) {
                int due = stone == 0 ? 0 : (stone + 1) * (kind == 3 ? 2 : 1);
                e.is("KIND " + kind + ", STONES " + (stone + 1), x.lay(stone, 0), due);
            }
        }
    }

    private void promise10AllUp() {
        e.sentence(10, "SCORE of a LAY: if THE TRAIN then has two STONES or more and all their MARKS are UP: how many STONES, "
                + "HEAVY ones counted twice; else 0.");
        for (int stones = 2; stones <= 12; stones++) {
            for (int wheel = 0; wheel < 2 * stones; wheel++) {
                ToothStones x = laid(stones - 1, 1, 9, 9);
                x.mark(wheel / 2, wheel % 2, wheel % 2 == 0 ? 1 : 8);
                e.is(stones + " STONES, a MARK of STONE " + wheel / 2 + " not UP", x.lay(stones - 1, 0), 0);
            }
            ToothStones x = laid(stones - 1, 1, 9, 9);
            x.mark(stones % 12, 0, stones < 12 ? 1 : 0);
            e.is(stones + " STONES, a MARK not of THE TRAIN's", x.lay(stones - 1, 0), stones);
        }
    }

    private void promise10HeavyTwice() {
        e.sentence(10, "SCORE of a LAY: if THE TRAIN then has two STONES or more and all their MARKS are UP: how many STONES, "
                + "HEAVY ones counted twice; else 0.");
        e.is("none HEAVY", laid(1, 1, 3, 3).lay(1, 0), 2);
        for (int place = 0; place < 3; place++) {
            ToothStones x = new ToothStones();
            for (int stone = 0; stone < 3; stone++) {
                x.stone(stone == place ? 3 : 1, 3, 3);
            }
            x.lay(0, 0);
            e.is("HEAVY at " + place + ", two STONES", x.lay(1, 0), place == 2 ? 2 : 3);
            e.is("HEAVY at " + place + ", three STONES", x.lay(2, 0), 4);
        }
        ToothStones off = Due.of("33p,33p,33h,33h");
        off.lay(0, 0);
        e.is("HEAVY ones not of THE TRAIN", off.lay(1, 0), 2);
        ToothStones stiff = Due.of("33s@22,33s");
        stiff.lay(0, 0);
        e.is("a STIFF one once", stiff.lay(1, 0), 2);
    }

    private void promise10HandOfTheStone() {
        e.sentence(10, "It goes to the HAND of the STONE.");
        ToothStones x = StonesBoundaries.twelve(1, 3, 3);
        int[] hands = {0, 0, 1, -1, 0, 1, 1, -1, 0, 0, -1, 1};
        int[] due = new int[2];
        for (int stone = 0; stone < 12; stone++) {
            x.deal(stone, hands[stone]);
            x.lay(stone, 0);
            if (hands[stone] >= 0 && stone > 0) {
                due[hands[stone]] += stone + 1;
            }
            e.is("SCORE of HAND 0 behind " + stone, x.count(4), due[0]);
            e.is("SCORE of HAND 1 behind " + stone, x.count(5), due[1]);
        }
        x.take(12);
        e.is("it stays behind take()", x.count(4), due[0]);
        x.deal(0, 1);
        x.lay(0, 0);
        x.deal(1, 1);
        x.lay(1, 0);
        e.is("and grows", x.count(5), due[1] + 2);
    }

    private void promise11HowManyLieThen() {
        e.sentence(11, "The last n STONES (1 .. 12) of THE TRAIN come back to THE HEAP, MARKS stay (THE RING opens): "
                + "how many lie then.");
        for (int lie = 1; lie <= 12; lie++) {
            for (int n = 1; n <= lie; n++) {
                ToothStones x = laid(lie, 0, 3, 3);
                e.is("of " + lie + ", take(" + n + ")", x.take(n), lie - n);
                e.is("in THE TRAIN", x.count(1), lie - n);
                for (int stone = 0; stone < lie; stone++) {
                    e.is("place of " + stone, x.told(stone, 5), stone < lie - n ? stone : NONE);
                }
            }
        }
    }

    private void promise11MarksStayAndRingOpens() {
        e.sentence(11, "The last n STONES (1 .. 12) of THE TRAIN come back to THE HEAP, MARKS stay (THE RING opens): "
                + "how many lie then.");
        for (int n = 1; n <= 12; n++) {
            ToothStones x = laid(12, 0, 9, 9);
            x.crank(5);
            x.shut(true);
            long[] marks = new long[12];
            for (int stone = 0; stone < 12; stone++) {
                marks[stone] = Due.marks(x, stone);
            }
            x.take(n);
            e.is("THE RING opens by " + n, x.count(7), 0);
            for (int stone = 0; stone < 12; stone++) {
                e.is("MARKS of " + stone, Due.marks(x, stone), marks[stone]);
                e.is("HAND of " + stone, x.told(stone, 7), NONE);
            }
            e.is("of HANDS", x.count(2) + x.count(3), 0);
        }
    }

    private void promise11Bad() {
        e.sentence(11, "BAD;");
        for (int wrong : new int[] {LEAST, -12, -1, 0, 13, 14, 256, MOST}) {
            e.refused("take(" + wrong + ")", StonesBoundaries::some, x -> x.take(wrong), BAD);
            e.refused("take(" + wrong + ") of a RING", LaysBoundaries::ring, x -> x.take(wrong), BAD);
            e.refused("take(" + wrong + ") of twelve", () -> laid(12, 0, 3, 3), x -> x.take(wrong), BAD);
            e.refused("BAD ahead of NOT, take(" + wrong + ")", ToothStones::new, x -> x.take(wrong), BAD);
        }
    }

    private void promise11Not() {
        e.sentence(11, "NOT: there are not so many.");
        for (int lie = 0; lie < 12; lie++) {
            for (int n = lie + 1; n <= 12; n++) {
                int its = lie, many = n;
                e.refused("of " + lie + ", take(" + n + ")", () -> laid(its, 0, 3, 3), x -> x.take(many), NOT);
            }
        }
        e.refused("of a RING of 3, take(4)", LaysBoundaries::ring, x -> x.take(4), NOT);
    }

    private void promise12WhetherItWas() {
        e.sentence(12, "THE RING is shut, or open: whether it was (1, 0).");
        ToothStones x = StonesBoundaries.some();
        boolean[] asked = {false, true, true, false, false, true, false};
        int was = 0;
        for (boolean is : asked) {
            e.is("shut(" + is + ")", x.shut(is) , was);
            was = is ? 1 : 0;
            e.is("count(7)", x.count(7), was);
        }
        e.is("open, no TRAIN", new ToothStones().shut(false), 0);
    }

    private void promise12ThreeStonesOrMore() {
        e.sentence(12, "THE RING: by shut() the first FRONT and the last BACK mesh, too (it can be, if THE TRAIN has 3 STONES or "
                + "more, and the first FRONT has as many TEETH as the last BACK, or 1 more, or 1 less).");
        for (int lie = 0; lie <= 12; lie++) {
            ToothStones x = laid(lie, 0, 3, 3);
            e.is(lie + " STONES, shut(true)", x.shut(true), lie >= 3 ? 0 : NOT);
            e.is(lie + " STONES, count(7)", x.count(7), lie >= 3 ? 1 : 0);
        }
    }

    private void promise12TeethNear() {
        e.sentence(12, "THE RING: by shut() the first FRONT and the last BACK mesh, too (it can be, if THE TRAIN has 3 STONES or "
                + "more, and the first FRONT has as many TEETH as the last BACK, or 1 more, or 1 less).");
        for (int first = 3; first <= 9; first++) {
            for (int last = 3; last <= 9; last++) {
                boolean can = first - last >= -1 && first - last <= 1;
                for (int front = 0; front < 2; front++) {
                    ToothStones x = new ToothStones();
                    x.stone(0, front == 0 ? first : 6, front == 0 ? 6 : first);
                    x.stone(0, 6, 6);
                    x.stone(0, front == 0 ? 6 : last, front == 0 ? last : 6);
                    for (int stone = 0; stone < 3; stone++) {
                        x.lay(stone, front);
                    }
                    e.is("laid by " + front, x.count(1), 3);
                    e.is(first + " and " + last + " TEETH, shut(true)", x.shut(true), can ? 0 : NOT);
                    e.is(first + " and " + last + " TEETH, count(7)", x.count(7), can ? 1 : 0);
                    e.is(first + " and " + last + " TEETH, shut(false)", x.shut(false), can ? 1 : 0);
                }
            }
        }
        // the first and the last by place, not by number, and none that was taken
        ToothStones far = Due.of("99,44,89,33,34,45,56");
        for (int stone = 3; stone < 7; stone++) {
            far.lay(stone, 0);
        }
        e.is("3 and 6 TEETH", far.shut(true), NOT);
        far.take(1);
        e.is("3 and 5 TEETH", far.shut(true), NOT);
        far.take(1);
        e.is("two STONES of 3 and 4 TEETH", far.shut(true), NOT);
        far.lay(1, 0);
        e.is("3 and 4 TEETH", far.shut(true), 0);
    }

    private static ToothStones farApart() {
        ToothStones x = Due.of("34,45,56,66");
        x.lay(0, 0);
        x.lay(1, 0);
        x.lay(2, 0);
        return x;
    }

    private void promise12Not() {
        e.sentence(12, "NOT: it can't be shut.");
        for (int lie = 0; lie < 3; lie++) {
            int its = lie;
            e.refused(lie + " STONES", () -> laid(its, 0, 3, 3), x -> x.shut(true), NOT);
        }
        e.refused("3 and 6 TEETH", LaysBoundaries::farApart, x -> x.shut(true), NOT);
        e.is("open it can always be", farApart().shut(false), 0);
        ToothStones x = ring();
        x.take(1);
        e.is("two are left of a RING", x.shut(true), NOT);
    }
}
