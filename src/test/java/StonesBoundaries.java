import java.util.List;
import java.util.function.ToIntFunction;

/** Boundary cases of promises 1 to 6 and 8: numbers, kinds, teeth, marks, hands, the tape, counts. */
final class StonesBoundaries {
    private static final int BAD = ToothStones.BAD, NOT = ToothStones.NOT, FULL = ToothStones.FULL, NONE = ToothStones.NONE;
    private static final int LEAST = Integer.MIN_VALUE, MOST = Integer.MAX_VALUE;

    private final Edges e;

    StonesBoundaries(Edges e) {
        this.e = e;
    }

    void all() {
        promise1NewObject();
        promise1FirstMarks();
        promise1TheHeapAtFirst();
        promise1TheDrawAtFirst();
        promise1SheetsAtFirst();
        promise1The512thCall();
        promise1AnyCall512Times();
        promise2Number();
        promise2TwelveStones();
        promise2Bad();
        promise2Kinds();
        promise2Full();
        promise3MarkWas();
        promise3Places();
        promise3Bad();
        promise4Told();
        promise4PlaceNone();
        promise4FrontNone();
        promise4HandNone();
        promise4Bad();
        promise5Deal();
        promise5Bad();
        promise5Not();
        promise6Bytes();
        promise6Bad();
        promise6Full();
        promise8Empty();
        promise8Full();
        promise8Bad();
    }

    /** Some of all that an object can hold, so that what changes can be seen: STONES 0, 1, 2 laid, 3 to 6 not. */
    static ToothStones some() {
        ToothStones x = Due.of("33@21,33,34s,43h@31,56p@45,44,33@12");
        x.deal(1, 0);
        x.deal(2, 1);
        x.deal(3, 0);
        x.deal(4, 1);
        x.deal(6, 0);
        x.lay(0, 0);
        x.image();
        x.lay(1, 0);
        x.lay(2, 0);
        x.seed(77);
        Due.fill(x, 0, 0, 0, 0, 1, 1, 5, 9, 2, 0);
        Due.fill(x, 1, 1, 3, 1, -7, 0, 6);
        Due.fill(x, 2, 2, 4, 0, 4, 1, 99);
        Due.typed(x, "45,");
        return x;
    }

    /** Twelve STONES of the document's 12, all on THE HEAP. */
    static ToothStones twelve(int kind, int first, int second) {
        ToothStones x = new ToothStones();
        for (int stone = 0; stone < 12; stone++) {
            x.stone(kind, first, second);
        }
        return x;
    }

    private void promise1NewObject() {
        e.sentence(1, "No stone.");
        ToothStones x = new ToothStones();
        for (int what = 0; what < 8; what++) {
            e.is("count(" + what + ")", x.count(what), 0);
            e.is("told(0, " + what + ")", x.told(0, what), BAD);
        }
        e.is("mark(0, 0, 0)", x.mark(0, 0, 0), BAD);
        e.is("deal(0, 0)", x.deal(0, 0), BAD);
        e.is("may(0, 0)", x.may(0, 0), BAD);
        e.is("lay(0, 0)", x.lay(0, 0), BAD);
        e.is("point(0, 0)", x.point(0, 0), BAD);
        e.is("take(1)", x.take(1), NOT);
        e.is("best(0, 0)", x.best(0, 0), NONE);
        e.is("match(24)", x.match(24), 0);
        e.is("the first stone", x.stone(0, 3, 3), 0);
    }

    private void promise1FirstMarks() {
        e.sentence(1, "(0 at first; UP is 0)");
        ToothStones x = twelve(1, 9, 8);
        for (int stone = 0; stone < 12; stone++) {
            e.is("MARKS of " + stone, Due.marks(x, stone), 0);
            x.lay(stone, stone % 2);
        }
        e.is("MARKS that are UP", x.count(6), 24);
        for (int v = 1; v < 9; v++) {
            x.mark(11, 0, v);
            e.is("UP, a MARK of " + v, x.count(6), 23);
        }
        x.mark(11, 0, 0);
        e.is("UP, a MARK of 0 again", x.count(6), 24);
    }

    private void promise1TheHeapAtFirst() {
        e.sentence(1, "HANDS 0 and 1 hold STONES, or nobody does (THE HEAP, at first).");
        ToothStones x = twelve(0, 3, 3);
        e.is("of HAND 0", x.count(2), 0);
        e.is("of HAND 1", x.count(3), 0);
        for (int stone = 0; stone < 12; stone++) {
            e.is("HAND of " + stone, x.told(stone, 7), NONE);
        }
        for (int stone = 0; stone < 12; stone++) {
            x.deal(stone, 1);
        }
        e.is("of HAND 1, all", x.count(3), 12);
        e.is("of HAND 0, none", x.count(2), 0);
        for (int stone = 0; stone < 12; stone++) {
            x.deal(stone, 0);
        }
        e.is("of HAND 0, all", x.count(2), 12);
        e.is("of HAND 1, none", x.count(3), 0);
    }

    private void promise1TheDrawAtFirst() {
        e.sentence(1, "(1 at first)");
        e.is("seed(0)", new ToothStones().seed(0), 1);
    }

    private void promise1SheetsAtFirst() {
        e.sentence(1, "sheets 0 .. 3: nothing (at first)");
        ToothStones x = new ToothStones();
        for (int sheet = 0; sheet < 4; sheet++) {
            for (int lane = 0; lane < 3; lane++) {
                e.is("item(" + sheet + ", " + lane + ", 0, 0)", x.item(sheet, lane, 0, 0), ToothStones.NULL);
            }
            e.is("drop(" + sheet + ")", x.drop(sheet), ToothStones.NULL);
        }
    }

    private void promise1The512thCall() {
        e.sentence(1, "An object is used for at most 512 calls after it has been made; what later calls answer is free.");
        ToothStones turned = new ToothStones();
        turned.stone(0, 3, 4);
        turned.lay(0, 0);
        for (int call = 3; call <= 511; call++) {
            turned.crank(99);
        }
        // 509 times 99 teeth: 50391, of which 3 leave 0, and 4 leave 3, backward
        e.is("the 512th call, told(0, 4) behind 509 cranks", turned.told(0, 4), 1);
        ToothStones typed = new ToothStones();
        for (int call = 1; call <= 510; call += 2) {
            typed.type(Due.word("33"), 2);
            typed.stones();
        }
        e.is("the 511th call, count(0) behind 255 texts", typed.count(0), 1);
        e.is("the 512th call, stone() behind them", typed.stone(3, 9, 9), 1);
        ToothStones drawn = twelve(0, 3, 3);
        for (int stone = 0; stone < 12; stone++) {
            drawn.deal(stone, stone % 2);
        }
        for (int call = 25; call <= 511; call++) {
            drawn.best(0, 0);
        }
        e.is("the 512th call, match(24)", drawn.match(24), 12);
    }

    private void promise1AnyCall512Times() {
        e.sentence(1, "An object is used for at most 512 calls after it has been made; what later calls answer is free.");
        List<ToIntFunction<ToothStones>> calls = List.of(x -> x.stone(0, 2, 3), x -> x.mark(0, 0, 2), x -> x.told(4, 3),
            x -> x.deal(3, 0), x -> x.type(31, 1), x -> x.count(0), x -> x.may(3, 0), x -> x.lay(4, 1), x -> x.take(4),
            x -> x.shut(false), ToothStones::locked, x -> x.crank(0), ToothStones::around, ToothStones::up, x -> x.best(0, 2),
            x -> x.point(0, 1), x -> x.match(0), x -> x.seed(77), ToothStones::image, ToothStones::restore,
            x -> x.judged(0, 0, 0, 2), x -> x.orders(7, 0, 0, 0, -1), x -> x.sheet(3, 0, 24), x -> x.drop(3),
            x -> x.item(0, 0, 0, 1), x -> x.film(0, 0, 0));
        for (int call = 0; call < calls.size(); call++) {
            ToothStones x = some();
            x.mark(0, 0, 2);
            x.image();
            int first = calls.get(call).applyAsInt(x);
            // some() makes fewer than 60 calls
            for (int i = 0; i < 448; i++) {
                calls.get(call).applyAsInt(x);
            }
            e.is("call " + call + " of the list, asked again and again", calls.get(call).applyAsInt(x), first);
        }
    }

    private void promise2Number() {
        e.sentence(2, "A STONE: its number.");
        ToothStones x = new ToothStones();
        for (int stone = 0; stone < 12; stone++) {
            e.is("as they come, " + stone, x.stone(stone % 4, 3 + stone % 7, 9 - stone % 7), stone);
        }
        ToothStones kept = new ToothStones();
        kept.stone(0, 3, 3);
        kept.image();
        kept.stone(0, 4, 4);
        kept.restore();
        e.is("behind restore()", kept.stone(0, 5, 5), 1);
        e.is("its TEETH", kept.told(1, 1), 5);
        Due.read(kept, "33,33,33,33,33,33,33,33");
        e.is("behind a text of 8", kept.stone(0, 3, 3), 8);
    }

    private void promise2TwelveStones() {
        e.sentence(2, "STONES 0 .. 11, as they come, have two WHEELS of TEETH (3 .. 9 each): 0 and 1;");
        for (int first = 1; first <= 11; first++) {
            for (int second = 1; second <= 11; second++) {
                boolean is = first >= 3 && first <= 9 && second >= 3 && second <= 9;
                ToothStones x = new ToothStones();
                e.is("stone(0, " + first + ", " + second + ")", x.stone(0, first, second), is ? 0 : BAD);
                e.is("STONES then", x.count(0), is ? 1 : 0);
                e.is("WHEEL 0", x.told(0, 1), is ? first : BAD);
                e.is("WHEEL 1", x.told(0, 2), is ? second : BAD);
            }
        }
        ToothStones x = twelve(0, 3, 3);
        e.is("STONE 11", x.told(11, 0), 0);
        e.is("STONE 12", x.told(12, 0), BAD);
    }

    private void promise2Bad() {
        e.sentence(2, "BAD;");
        for (int wrong : new int[] {LEAST, -9, -3, -1, 0, 1, 2, 10, 11, 256 + 3, 65536 + 3, MOST}) {
            e.refused("stone(0, " + wrong + ", 3)", StonesBoundaries::some, x -> x.stone(0, wrong, 3), BAD);
            e.refused("stone(0, 3, " + wrong + ")", StonesBoundaries::some, x -> x.stone(0, 3, wrong), BAD);
            e.refused("stone(3, " + wrong + ", " + wrong + ")", StonesBoundaries::some, x -> x.stone(3, wrong, wrong), BAD);
        }
        for (int wrong : new int[] {LEAST, -2, -1, 4, 5, 256, 65536, MOST}) {
            e.refused("stone(" + wrong + ", 3, 3)", StonesBoundaries::some, x -> x.stone(wrong, 3, 3), BAD);
        }
    }

    private void promise2Kinds() {
        e.sentence(2, "KINDS: 0 FREE; below it 1 PAWLED (neither WHEEL turns backward), 2 STIFF (its two WHEELS turn as one, "
                + "the same way; of all others they mesh with one another); 3 HEAVY (below PAWLED; see SCORE).");
        // of one STONE laid: whether it is LOCKED, and its MARKS behind CRANK by one tooth forward, then two backward
        int[][] due = {{0, 13, 31}, {2, 0, 0}, {0, 11, 33}, {2, 0, 0}};
        for (int kind = 0; kind < 4; kind++) {
            ToothStones x = new ToothStones();
            e.is("a STONE of KIND " + kind, x.stone(kind, 4, 4), 0);
            e.is("KIND", x.told(0, 0), kind);
            x.lay(0, 0);
            e.is("locked(), KIND " + kind, x.locked(), due[kind][0]);
            x.crank(1);
            e.is("MARKS forward, KIND " + kind, Due.marks(x, 0), due[kind][1]);
            x.crank(-2);
            e.is("MARKS backward, KIND " + kind, Due.marks(x, 0), due[kind][2]);
        }
    }

    private void promise2Full() {
        e.sentence(2, "FULL: 12.");
        ToothStones x = new ToothStones();
        for (int stone = 0; stone < 12; stone++) {
            e.is("stone " + (stone + 1) + " of 12", x.stone(0, 3, 3), stone);
        }
        e.is("a thirteenth", x.stone(0, 3, 3), FULL);
        e.is("a fourteenth", x.stone(3, 9, 9), FULL);
        for (int kind = 0; kind < 4; kind++) {
            int its = kind;
            e.refused("a thirteenth of KIND " + kind, () -> twelve(1, 4, 5), y -> y.stone(its, 9, 9), FULL);
        }
        e.refused("BAD KIND ahead of FULL", () -> twelve(1, 4, 5), y -> y.stone(4, 9, 9), BAD);
        e.refused("BAD TEETH of WHEEL 0 ahead of FULL", () -> twelve(1, 4, 5), y -> y.stone(0, 10, 9), BAD);
        e.refused("BAD TEETH of WHEEL 1 ahead of FULL", () -> twelve(1, 4, 5), y -> y.stone(0, 3, 2), BAD);
        for (int stone = 0; stone < 12; stone++) {
            x.lay(stone, 0);
        }
        e.is("FULL, though all are laid", x.stone(0, 3, 3), FULL);
        Due.read(x, "33");
        for (int stone = 1; stone < 12; stone++) {
            e.is("room again behind a text, " + stone, x.stone(0, 3, 3), stone);
        }
        e.is("FULL again", x.stone(0, 3, 3), FULL);
    }

    private void promise3MarkWas() {
        e.sentence(3, "MARK of a WHEEL: what it was.");
        for (int wheel = 0; wheel < 2; wheel++) {
            ToothStones x = twelve(0, 9, 9);
            int was = 0;
            for (int v : new int[] {8, 0, 7, 7, 1, 8}) {
                e.is("mark(11, " + wheel + ", " + v + ")", x.mark(11, wheel, v), was);
                e.is("MARK of it", x.told(11, 3 + wheel), v);
                e.is("MARK of the other WHEEL", x.told(11, 4 - wheel), 0);
                e.is("MARKS of the STONE ahead", Due.marks(x, 10), 0);
                was = v;
            }
        }
    }

    private void promise3Places() {
        e.sentence(3, "each WHEEL has a MARK: a place (0 .. TEETH less 1) it is turned to");
        for (int teeth = 3; teeth <= 9; teeth++) {
            for (int wheel = 0; wheel < 2; wheel++) {
                for (int v = -1; v <= 10; v++) {
                    ToothStones x = new ToothStones();
                    // the other WHEEL has 9 TEETH or, if it has less, others than this one
                    int other = teeth == 9 ? 3 : 9;
                    x.stone(0, wheel == 0 ? teeth : other, wheel == 0 ? other : teeth);
                    boolean is = v >= 0 && v <= teeth - 1;
                    e.is(teeth + " TEETH, mark(0, " + wheel + ", " + v + ")", x.mark(0, wheel, v), is ? 0 : BAD);
                    e.is("the MARK then", x.told(0, 3 + wheel), is ? v : 0);
                }
            }
        }
    }

    private void promise3Bad() {
        e.sentence(3, "BAD.");
        for (int wrong : new int[] {LEAST, -7, -1, 7, 8, 12, MOST}) {
            e.refused("mark(" + wrong + ", 0, 0)", StonesBoundaries::some, x -> x.mark(wrong, 0, 0), BAD);
        }
        for (int wrong : new int[] {LEAST, -2, -1, 2, 3, MOST}) {
            e.refused("mark(3, " + wrong + ", 1)", StonesBoundaries::some, x -> x.mark(3, wrong, 1), BAD);
        }
        for (int wrong : new int[] {LEAST, -4, -1, 4, 5, 260, MOST}) {
            e.refused("mark(3, 0, " + wrong + ")", StonesBoundaries::some, x -> x.mark(3, 0, wrong), BAD);
        }
        e.refused("a MARK of the other WHEEL's TEETH", StonesBoundaries::some, x -> x.mark(3, 1, 3), BAD);
        e.refused("of a STONE laid", StonesBoundaries::some, x -> x.mark(1, 0, 3), BAD);
    }

    private void promise4Told() {
        e.sentence(4, "Of a STONE: 0 KIND, 1, 2 TEETH, 3, 4 MARKS,");
        ToothStones x = twelve(0, 3, 3);
        ToothStones last = new ToothStones();
        for (int stone = 0; stone < 11; stone++) {
            last.stone(0, 3, 3);
        }
        last.stone(3, 9, 8);
        last.mark(11, 0, 8);
        last.mark(11, 1, 7);
        int[] least = {0, 3, 3, 0, 0}, most = {3, 9, 8, 8, 7};
        for (int what = 0; what < 5; what++) {
            e.is("told(0, " + what + ")", x.told(0, what), least[what]);
            e.is("told(11, " + what + ")", last.told(11, what), most[what]);
            e.is("told(10, " + what + ")", last.told(10, what), least[what]);
        }
    }

    private void promise4PlaceNone() {
        e.sentence(4, "5 its place in THE TRAIN (NONE),");
        ToothStones x = twelve(0, 3, 3);
        for (int stone = 0; stone < 12; stone++) {
            e.is("not laid, told(" + stone + ", 5)", x.told(stone, 5), NONE);
        }
        for (int stone = 11; stone >= 0; stone--) {
            x.lay(stone, 0);
        }
        for (int stone = 0; stone < 12; stone++) {
            e.is("laid, told(" + stone + ", 5)", x.told(stone, 5), 11 - stone);
        }
        x.take(1);
        e.is("taken, told(0, 5)", x.told(0, 5), NONE);
        e.is("still laid, told(1, 5)", x.told(1, 5), 10);
    }

    private void promise4FrontNone() {
        e.sentence(4, "6 its FRONT (NONE),");
        ToothStones x = twelve(0, 3, 3);
        for (int stone = 0; stone < 12; stone++) {
            e.is("not laid, told(" + stone + ", 6)", x.told(stone, 6), NONE);
            x.lay(stone, stone % 2);
            e.is("laid, told(" + stone + ", 6)", x.told(stone, 6), stone % 2);
        }
        x.take(12);
        for (int stone = 0; stone < 12; stone++) {
            e.is("taken, told(" + stone + ", 6)", x.told(stone, 6), NONE);
        }
    }

    private void promise4HandNone() {
        e.sentence(4, "7 its HAND (NONE: THE HEAP, THE TRAIN).");
        ToothStones x = new ToothStones();
        x.stone(0, 3, 3);
        e.is("THE HEAP, at first", x.told(0, 7), NONE);
        x.deal(0, 0);
        e.is("HAND 0", x.told(0, 7), 0);
        x.deal(0, 1);
        e.is("HAND 1", x.told(0, 7), 1);
        x.lay(0, 0);
        e.is("THE TRAIN", x.told(0, 7), NONE);
        x.take(1);
        e.is("THE HEAP, behind take()", x.told(0, 7), NONE);
        x.deal(0, 1);
        x.deal(0, -1);
        e.is("THE HEAP, behind deal()", x.told(0, 7), NONE);
    }

    private void promise4Bad() {
        e.sentence(4, "BAD.");
        for (int wrong : new int[] {LEAST, -1, 7, 8, 12, MOST}) {
            for (int what = 0; what < 8; what++) {
                int its = what;
                e.refused("told(" + wrong + ", " + what + ")", StonesBoundaries::some, x -> x.told(wrong, its), BAD);
            }
        }
        for (int wrong : new int[] {LEAST, -4, -1, 8, 9, MOST}) {
            e.refused("told(0, " + wrong + ")", StonesBoundaries::some, x -> x.told(0, wrong), BAD);
            e.refused("told(6, " + wrong + ")", StonesBoundaries::some, x -> x.told(6, wrong), BAD);
        }
    }

    private void promise5Deal() {
        e.sentence(5, "A STONE not laid comes to a HAND (0, 1), to THE HEAP (-1): where it was (as told() 7).");
        int[] hands = {-1, 0, 1};
        for (int was : hands) {
            for (int hand : hands) {
                ToothStones x = twelve(0, 3, 3);
                x.deal(11, was);
                e.is("from " + was + ", deal(11, " + hand + ")", x.deal(11, hand), was < 0 ? NONE : was);
                e.is("told(11, 7)", x.told(11, 7), hand < 0 ? NONE : hand);
                e.is("of HAND 0", x.count(2), hand == 0 ? 1 : 0);
                e.is("of HAND 1", x.count(3), hand == 1 ? 1 : 0);
            }
        }
        ToothStones x = twelve(0, 3, 3);
        x.deal(0, 1);
        x.lay(0, 0);
        x.take(1);
        e.is("taken, it was on THE HEAP", x.deal(0, 1), NONE);
    }

    private void promise5Bad() {
        e.sentence(5, "BAD;");
        for (int wrong : new int[] {LEAST, -7, -1, 7, 8, 12, MOST}) {
            e.refused("deal(" + wrong + ", 0)", StonesBoundaries::some, x -> x.deal(wrong, 0), BAD);
        }
        for (int wrong : new int[] {LEAST, -11, NONE, -3, -2, 2, 3, MOST}) {
            e.refused("deal(3, " + wrong + ")", StonesBoundaries::some, x -> x.deal(3, wrong), BAD);
            e.refused("BAD ahead of NOT, deal(0, " + wrong + ")", StonesBoundaries::some, x -> x.deal(0, wrong), BAD);
        }
    }

    private void promise5Not() {
        e.sentence(5, "NOT: it is laid.");
        for (int hand = -1; hand <= 1; hand++) {
            int its = hand;
            for (int stone = 0; stone < 3; stone++) {
                int laid = stone;
                e.refused("deal(" + stone + ", " + hand + ")", StonesBoundaries::some, x -> x.deal(laid, its), NOT);
            }
        }
        ToothStones x = some();
        e.is("not laid", x.deal(3, 1), 0);
        x.take(1);
        e.is("no more laid", x.deal(2, 1), NONE);
        e.is("still laid", x.deal(1, 1), NOT);
    }

    private void promise6Bytes() {
        e.sentence(6, "The n lowest bytes (1 .. 8) of w, of these the highest first, come behind THE TAPE: how many it has.");
        long w = Due.word("34s@12,5");
        for (int n = 1; n <= 8; n++) {
            ToothStones x = new ToothStones();
            e.is("type(w, " + n + ")", x.type(w, n), n);
            // the lowest n of 3 4 s @ 1 2 , 5: 5; ,5; 2,5; 12,5; @12,5; s@12,5; 4s@12,5; the whole
            int[] due = {-21, -20, -20, -20, -20, -20, -21, -28};
            e.is("its FAULT", x.stones(), due[n - 1]);
        }
        ToothStones x = new ToothStones();
        x.type(Due.word("3"), 1);
        e.is("behind THE TAPE", x.type(Due.word("4"), 1), 2);
        e.is("34", x.stones(), 1);
        e.is("3 came first", 10 * x.told(0, 1) + x.told(0, 2), 34);
        for (int n = 1; n < 8; n++) {
            ToothStones above = new ToothStones();
            long bytes = -1L << 8 * n | Due.word("33333333") & ~(-1L << 8 * n);
            e.is("bytes above the " + n + " lowest are not looked at", above.type(bytes, n), n);
            above = new ToothStones();
            e.is("nor if they are 0", above.type(Due.word("33333333") & ~(-1L << 8 * n), n), n);
        }
    }

    private void promise6Bad() {
        e.sentence(6, "BAD: n, a byte not 32 .. 126;");
        for (int wrong : new int[] {LEAST, -8, -1, 0, 9, 10, 16, 64, MOST}) {
            e.refused("type(w, " + wrong + ")", StonesBoundaries::some, x -> x.type(Due.word("33333333"), wrong), BAD);
        }
        for (int n = 1; n <= 8; n++) {
            for (int place = 0; place < n; place++) {
                for (int b = 0; b < 256; b++) {
                    long w = Due.word("33333333") & ~(255L << 8 * place) | (long) b << 8 * place;
                    ToothStones x = new ToothStones();
                    boolean is = b >= 32 && b <= 126;
                    e.is("byte " + b + " at " + place + " of " + n, x.type(w, n), is ? n : BAD);
                    e.is("THE TAPE has then", x.type(32, 1), is ? n + 1 : 1);
                }
            }
        }
        e.refused("a byte 31 behind others", StonesBoundaries::some, x -> x.type(0x3333331fL, 4), BAD);
        e.refused("a byte 127 ahead of others", StonesBoundaries::some, x -> x.type(0x7f333333L, 4), BAD);
        e.refused("the lowest w", StonesBoundaries::some, x -> x.type(Long.MIN_VALUE, 8), BAD);
        e.refused("the highest w", StonesBoundaries::some, x -> x.type(Long.MAX_VALUE, 8), BAD);
    }

    private static ToothStones typed(int length) {
        ToothStones x = some();
        x.stones();
        for (int i = 0; i < length / 8; i++) {
            x.type(Due.word("33,33,33"), 8);
        }
        if (length % 8 > 0) {
            x.type(Due.word("33,33,33"), length % 8);
        }
        return x;
    }

    private void promise6Full() {
        e.sentence(6, "FULL: 80.");
        for (int length = 64; length <= 80; length++) {
            for (int n = 1; n <= 8; n++) {
                int most = length, more = n;
                if (length + n <= 80) {
                    e.is("behind " + length + ", " + n + " more", typed(length).type(Due.word("33333333"), n), length + n);
                } else {
                    e.refused("behind " + length + ", " + n + " more", () -> typed(most),
                            x -> x.type(Due.word("33333333"), more), FULL);
                }
            }
        }
        e.refused("BAD n ahead of FULL", () -> typed(80), x -> x.type(Due.word("3"), 9), BAD);
        e.refused("a BAD byte ahead of FULL", () -> typed(80), x -> x.type(31, 1), BAD);
        ToothStones x = typed(80);
        x.stones();
        e.is("empty again", x.type(Due.word("33333333"), 8), 8);
    }

    private void promise8Empty() {
        e.sentence(8, "How many: 0 STONES, 1 in THE TRAIN, 2 of HAND 0, 3 of HAND 1, 4 SCORE of HAND 0, 5 of HAND 1, "
                + "6 MARKS of THE TRAIN that are UP, 7 whether THE RING is shut (1, 0).");
        ToothStones x = new ToothStones();
        for (int what = 0; what < 8; what++) {
            e.is("of nothing, count(" + what + ")", x.count(what), 0);
        }
        x = twelve(0, 3, 3);
        for (int what = 1; what < 8; what++) {
            e.is("all on THE HEAP, count(" + what + ")", x.count(what), 0);
        }
    }

    private void promise8Full() {
        e.sentence(8, "How many: 0 STONES, 1 in THE TRAIN, 2 of HAND 0, 3 of HAND 1, 4 SCORE of HAND 0, 5 of HAND 1, "
                + "6 MARKS of THE TRAIN that are UP, 7 whether THE RING is shut (1, 0).");
        for (int hand = 0; hand < 2; hand++) {
            ToothStones x = twelve(3, 3, 3);
            for (int stone = 0; stone < 12; stone++) {
                x.deal(stone, hand);
            }
            e.is("STONES", x.count(0), 12);
            e.is("of HAND " + hand, x.count(2 + hand), 12);
            e.is("of the other HAND", x.count(3 - hand), 0);
            for (int stone = 0; stone < 12; stone++) {
                x.lay(stone, 0);
            }
            e.is("in THE TRAIN", x.count(1), 12);
            e.is("of HAND " + hand + " then", x.count(2 + hand), 0);
            // HEAVY ones count twice, and are LOCKED: 4 and 6 and .. and 24
            e.is("SCORE of HAND " + hand, x.count(4 + hand), 154);
            e.is("SCORE of the other HAND", x.count(5 - hand), 0);
            e.is("MARKS that are UP", x.count(6), 24);
            e.is("open", x.count(7), 0);
            x.shut(true);
            e.is("shut", x.count(7), 1);
        }
    }

    private void promise8Bad() {
        e.sentence(8, "BAD.");
        for (int wrong : new int[] {LEAST, -2, -1, 8, 9, MOST}) {
            e.refused("count(" + wrong + ")", StonesBoundaries::some, x -> x.count(wrong), BAD);
        }
    }
}
