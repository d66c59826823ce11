import java.util.function.Supplier;
import java.util.function.ToIntFunction;

/** What the Terms say of all refusals: which comes first, and that nothing changes; call by call. */
final class RefusalsBoundaries {
    private static final int BAD = ToothStones.BAD, NOT = ToothStones.NOT, FULL = ToothStones.FULL, NONE = ToothStones.NONE;
    private static final int NULL = ToothStones.NULL, CAST = ToothStones.CAST, INDEX = ToothStones.INDEX, SIZE = ToothStones.SIZE;
    private static final String FIRST = "Refusals are answers, of several the first that a call names: BAD -1 (a number is not as told, "
        + "or names nothing), NOT -2 (as told), FULL -3, NONE -4 (as told), CAST -12 (of SHEETS another LANE); what the machine "
        + "finds: NULL -11, INDEX -13, SIZE -14 (NULL, CAST, INDEX, SIZE in this order, behind BAD).";
    private static final String NOTHING = "What is refused changes nothing, but as told.";

    private final Edges e;

    RefusalsBoundaries(Edges e) {
        this.e = e;
    }

    void all() {
        numbersOfRefusals();
        promise2To8First();
        promise9To16First();
        promise17To22First();
        promise23And24First();
        promise25To28First();
        promise2To16ChangeNothing();
        promise17To28ChangeNothing();
        promise7ChangesAsTold();
    }

    private void numbersOfRefusals() {
        e.sentence(1, FIRST);
        e.is("BAD", BAD, -1);
        e.is("NOT", NOT, -2);
        e.is("FULL", FULL, -3);
        e.is("NONE", NONE, -4);
        e.is("NULL", NULL, -11);
        e.is("CAST", CAST, -12);
        e.is("INDEX", INDEX, -13);
        e.is("SIZE", SIZE, -14);
    }

    private static ToothStones some() {
        return StonesBoundaries.some();
    }

    /** As some(), with THE RING shut: STONES 0, 1, 2 are laid, and it is ODD. */
    private static ToothStones ring() {
        ToothStones x = some();
        x.shut(true);
        return x;
    }

    /** As some(), with twelve STONES and 80 bytes on THE TAPE. */
    private static ToothStones full() {
        ToothStones x = some();
        for (int stone = 7; stone < 12; stone++) {
            x.stone(0, 3, 3);
        }
        for (int length = 3; length < 80; length++) {
            x.type('3', 1);
        }
        return x;
    }

    /** One STONE that is LOCKED alone, and whose MARKS could never be UP. */
    private static ToothStones locked() {
        ToothStones x = Due.of("44p@13,44");
        x.lay(0, 0);
        return x;
    }

    private void first(int promise, String call, ToothStones x, ToIntFunction<ToothStones> asking, int want) {
        e.sentence(promise, FIRST);
        e.is(call, asking.applyAsInt(x), want);
    }

    private void promise2To8First() {
        first(2, "stone: BAD, FULL", full(), x -> x.stone(4, 3, 3), BAD);
        first(2, "stone: FULL", full(), x -> x.stone(3, 3, 3), FULL);
        first(5, "deal: BAD, NOT", some(), x -> x.deal(0, 2), BAD);
        first(5, "deal: NOT", some(), x -> x.deal(0, 1), NOT);
        first(6, "type: BAD n, FULL", full(), x -> x.type('3', 0), BAD);
        first(6, "type: BAD byte, FULL", full(), x -> x.type(127, 1), BAD);
        first(6, "type: FULL", full(), x -> x.type('3', 1), FULL);
        first(3, "mark: names nothing", full(), x -> x.mark(12, 0, 0), BAD);
        first(4, "told: names nothing", full(), x -> x.told(12, 0), BAD);
        first(8, "count: names nothing", full(), x -> x.count(8), BAD);
        first(7, "stones: a FAULT is no refusal of these", full(), ToothStones::stones, -25);
    }

    private void promise9To16First() {
        first(9, "may: BAD, NOT", ring(), x -> x.may(0, 2), BAD);
        first(9, "may: NOT", ring(), x -> x.may(0, 1), NOT);
        first(10, "lay: BAD, NOT, NONE", ring(), x -> x.lay(4, 2), BAD);
        first(10, "lay: NOT, NONE", ring(), x -> x.lay(4, 1), NOT);
        first(10, "lay: NONE", some(), x -> x.lay(4, 1), NONE);
        first(11, "take: BAD, NOT", some(), x -> x.take(13), BAD);
        first(11, "take: NOT", some(), x -> x.take(12), NOT);
        first(12, "shut: NOT", locked(), x -> x.shut(true), NOT);
        first(13, "locked: NONE", full(), x -> x.take(3) + x.locked(), NONE);
        first(14, "crank: BAD, NONE", new ToothStones(), x -> x.crank(100), BAD);
        first(14, "crank: BAD, NOT", locked(), x -> x.crank(-100), BAD);
        first(14, "crank: NONE", new ToothStones(), x -> x.crank(-99), NONE);
        first(14, "crank: NOT", locked(), x -> x.crank(-99), NOT);
        first(15, "around: NONE", new ToothStones(), ToothStones::around, NONE);
        first(15, "around: NOT", locked(), ToothStones::around, NOT);
        first(16, "up: NONE", new ToothStones(), ToothStones::up, NONE);
        first(16, "up: NOT, NONE", locked(), x -> x.mark(0, 0, 2) - 1 + x.up(), NOT);
    }

    private void promise17To22First() {
        first(17, "best: BAD, NOT", ring(), x -> x.best(0, 3), BAD);
        first(17, "best: BAD, NONE", new ToothStones(), x -> x.best(2, 0), BAD);
        first(17, "best: NOT, NONE", ring(), x -> x.deal(3, -1) + x.deal(6, -1) + x.best(0, 0), NOT);
        first(17, "best: NONE", some(), x -> x.deal(3, -1) + x.deal(6, -1) + x.best(0, 0), NONE);
        first(18, "point: BAD STONE, NOT", locked(), x -> x.point(1, 0), BAD);
        first(18, "point: BAD MARK, NOT", locked(), x -> x.point(0, 4), BAD);
        first(18, "point: NOT", locked(), x -> x.point(0, 3), NOT);
        first(19, "match: BAD, NOT", ring(), x -> x.match(25), BAD);
        first(19, "match: NOT", ring(), x -> x.match(24), NOT);
        first(20, "seed: BAD", some(), x -> x.seed(-1), BAD);
        first(22, "restore: NONE", new ToothStones(), ToothStones::restore, NONE);
        e.sentence(21, FIRST);
        e.is("image: none", new ToothStones().image(), 1);
    }

    private void promise23And24First() {
        for (int from : new int[] {-1, 0}) {
            int at = from;
            int index = from < 0 ? INDEX : 0;
            first(23, "judged: BAD SHEET", some(), x -> x.judged(4, 0, at, 1), BAD);
            first(23, "judged: BAD LANE, NULL", some(), x -> x.judged(3, 3, at, 1), BAD);
            first(23, "judged: BAD n, NULL", some(), x -> x.judged(3, 0, at, 13), BAD);
            first(23, "judged: NULL", some(), x -> x.judged(3, 0, at, 1), NULL);
            first(23, "judged: BAD n, CAST", some(), x -> x.judged(0, 1, at, 0), BAD);
            first(23, "judged: CAST", some(), x -> x.judged(0, 1, at, 1), CAST);
            first(23, "judged: CAST, NOT", some(), x -> x.judged(0, 1, at, 4), CAST);
            // STONE 5 has no FRONT 9 there
            first(23, "judged: INDEX, NOT", some(), x -> x.judged(0, 0, at, 4), index == INDEX ? INDEX : NOT);
            first(23, "judged: BAD n, INDEX, NOT", some(), x -> x.judged(0, 0, at, 13), BAD);
            first(24, "orders: BAD SHEET", some(), x -> x.orders(3, -1, 0, at, -1), BAD);
            first(24, "orders: BAD set, NULL", some(), x -> x.orders(1, 3, 0, at, -1), BAD);
            first(24, "orders: BAD k, NULL", some(), x -> x.orders(3, 3, 0, at, 2), BAD);
            first(24, "orders: NULL", some(), x -> x.orders(3, 3, 0, at, 1), NULL);
            first(24, "orders: BAD k, CAST", some(), x -> x.orders(3, 0, 2, at, -2), BAD);
            first(24, "orders: CAST", some(), x -> x.orders(3, 0, 2, at, 1), CAST);
            first(24, "orders: BAD set, INDEX, NONE", some(), x -> x.orders(129, 0, 0, at, 1), BAD);
            first(24, "orders: INDEX, NONE", some(), x -> x.orders(3, 0, 0, at, 1), index == INDEX ? INDEX : NONE);
        }
    }

    private void promise25To28First() {
        first(25, "sheet: BAD SHEET, SIZE", some(), x -> x.sheet(4, 0, -1), BAD);
        first(25, "sheet: BAD LANE, SIZE", some(), x -> x.sheet(0, -1, -1), BAD);
        first(25, "sheet: SIZE", some(), x -> x.sheet(0, 0, -1), SIZE);
        first(25, "sheet: BAD n", some(), x -> x.sheet(0, 0, 25), BAD);
        first(26, "drop: BAD", some(), x -> x.drop(4), BAD);
        first(26, "drop: NULL", some(), x -> x.drop(3), NULL);
        for (int i : new int[] {-1, 24}) {
            int at = i;
            first(27, "item: BAD LANE, NULL, INDEX", some(), x -> x.item(3, 3, at, 1), BAD);
            first(27, "item: NULL, INDEX", some(), x -> x.item(3, 2, at, 1), NULL);
            first(27, "item: BAD LANE, CAST, INDEX", some(), x -> x.item(0, -1, at, 1), BAD);
            first(27, "item: CAST, INDEX", some(), x -> x.item(0, 2, at, 1), CAST);
            first(27, "item: INDEX", some(), x -> x.item(0, 0, at, 1), INDEX);
            first(28, "film: BAD LANE, NULL, INDEX", some(), x -> x.film(3, 3, at), BAD);
            first(28, "film: NULL, INDEX", some(), x -> x.film(3, 2, at), NULL);
            first(28, "film: BAD LANE, CAST, INDEX", some(), x -> x.film(0, -1, at), BAD);
            first(28, "film: CAST, INDEX", some(), x -> x.film(0, 2, at), CAST);
            first(28, "film: INDEX", some(), x -> x.film(0, 0, at), INDEX);
        }
    }

    private void nothing(int promise, String call, Supplier<ToothStones> made, ToIntFunction<ToothStones> asking, int want) {
        e.sentence(promise, NOTHING);
        e.refused(call, made, asking, want);
    }

    private void promise2To16ChangeNothing() {
        nothing(2, "stone: BAD", RefusalsBoundaries::some, x -> x.stone(0, 3, 10), BAD);
        nothing(2, "stone: FULL", RefusalsBoundaries::full, x -> x.stone(0, 3, 9), FULL);
        nothing(3, "mark: BAD", RefusalsBoundaries::some, x -> x.mark(6, 0, 3), BAD);
        nothing(4, "told: BAD", RefusalsBoundaries::some, x -> x.told(6, 8), BAD);
        nothing(5, "deal: BAD", RefusalsBoundaries::some, x -> x.deal(3, 2), BAD);
        nothing(5, "deal: NOT", RefusalsBoundaries::some, x -> x.deal(2, 1), NOT);
        nothing(6, "type: BAD, the last byte", RefusalsBoundaries::some, x -> x.type(0x3333331fL, 4), BAD);
        nothing(6, "type: FULL, room for some", () -> shorter(), x -> x.type(0x33333333L, 4), FULL);
        nothing(8, "count: BAD", RefusalsBoundaries::some, x -> x.count(8), BAD);
        nothing(9, "may: BAD", RefusalsBoundaries::some, x -> x.may(5, 2), BAD);
        nothing(9, "may: NOT", RefusalsBoundaries::ring, x -> x.may(5, 0), NOT);
        nothing(10, "lay: BAD", RefusalsBoundaries::some, x -> x.lay(3, 2), BAD);
        nothing(10, "lay: NOT", RefusalsBoundaries::ring, x -> x.lay(3, 0), NOT);
        nothing(10, "lay: NONE", RefusalsBoundaries::some, x -> x.lay(4, 1), NONE);
        nothing(11, "take: BAD", RefusalsBoundaries::ring, x -> x.take(0), BAD);
        nothing(11, "take: NOT", RefusalsBoundaries::ring, x -> x.take(4), NOT);
        nothing(12, "shut: NOT", RefusalsBoundaries::locked, x -> x.shut(true), NOT);
        nothing(13, "locked: NONE", ToothStones::new, ToothStones::locked, NONE);
        nothing(14, "crank: BAD", RefusalsBoundaries::some, x -> x.crank(100), BAD);
        nothing(14, "crank: NONE", ToothStones::new, x -> x.crank(1), NONE);
        nothing(14, "crank: NOT", RefusalsBoundaries::ring, x -> x.crank(1), NOT);
        nothing(15, "around: NONE", ToothStones::new, ToothStones::around, NONE);
        nothing(15, "around: NOT", RefusalsBoundaries::ring, ToothStones::around, NOT);
        nothing(16, "up: NONE, no TRAIN", ToothStones::new, ToothStones::up, NONE);
        nothing(16, "up: NOT", RefusalsBoundaries::ring, ToothStones::up, NOT);
        nothing(16, "up: NONE, never", () -> never(), ToothStones::up, NONE);
    }

    private static ToothStones shorter() {
        ToothStones x = some();
        for (int length = 3; length < 77; length++) {
            x.type('3', 1);
        }
        return x;
    }

    private static ToothStones never() {
        ToothStones x = Due.of("44@12");
        x.lay(0, 0);
        return x;
    }

    private void promise17To28ChangeNothing() {
        nothing(17, "best: BAD", RefusalsBoundaries::some, x -> x.best(0, 3), BAD);
        nothing(17, "best: NOT", RefusalsBoundaries::ring, x -> x.best(0, 0), NOT);
        nothing(17, "best: NONE", RefusalsBoundaries::locked, x -> x.best(0, 0), NONE);
        nothing(18, "point: BAD", RefusalsBoundaries::some, x -> x.point(0, 3), BAD);
        nothing(18, "point: NOT", RefusalsBoundaries::ring, x -> x.point(0, 2), NOT);
        nothing(19, "match: BAD", RefusalsBoundaries::some, x -> x.match(25), BAD);
        nothing(19, "match: NOT", RefusalsBoundaries::ring, x -> x.match(24), NOT);
        nothing(20, "seed: BAD", RefusalsBoundaries::some, x -> x.seed(-1), BAD);
        nothing(22, "restore: NONE", RefusalsBoundaries::locked, ToothStones::restore, NONE);
        nothing(23, "judged: BAD", RefusalsBoundaries::some, x -> x.judged(0, 0, 0, 13), BAD);
        nothing(23, "judged: NULL", RefusalsBoundaries::some, x -> x.judged(3, 0, 0, 1), NULL);
        nothing(23, "judged: CAST", RefusalsBoundaries::some, x -> x.judged(0, 1, 0, 1), CAST);
        nothing(23, "judged: INDEX", RefusalsBoundaries::some, x -> x.judged(0, 0, 7, 1), INDEX);
        nothing(23, "judged: NOT", RefusalsBoundaries::some, x -> x.judged(0, 0, 0, 3), NOT);
        nothing(23, "judged: NONE", RefusalsBoundaries::some, x -> x.judged(0, 0, 0, 2), NONE);
        nothing(24, "orders: BAD", RefusalsBoundaries::some, x -> x.orders(3, 0, 0, 0, 2), BAD);
        nothing(24, "orders: NULL", RefusalsBoundaries::some, x -> x.orders(3, 3, 0, 0, 1), NULL);
        nothing(24, "orders: CAST", RefusalsBoundaries::some, x -> x.orders(3, 0, 1, 0, 1), CAST);
        nothing(24, "orders: INDEX", RefusalsBoundaries::some, x -> x.orders(3, 0, 0, 5, 1), INDEX);
        nothing(24, "orders: NONE", RefusalsBoundaries::some, x -> x.orders(96, 0, 0, 0, 1), NONE);
        nothing(25, "sheet: BAD", RefusalsBoundaries::some, x -> x.sheet(0, 0, 25), BAD);
        nothing(25, "sheet: SIZE", RefusalsBoundaries::some, x -> x.sheet(0, 0, -1), SIZE);
        nothing(26, "drop: BAD", RefusalsBoundaries::some, x -> x.drop(4), BAD);
        nothing(26, "drop: NULL", RefusalsBoundaries::some, x -> x.drop(3), NULL);
        nothing(27, "item: BAD", RefusalsBoundaries::some, x -> x.item(4, 0, 0, 0), BAD);
        nothing(27, "item: NULL", RefusalsBoundaries::some, x -> x.item(3, 0, 0, 0), NULL);
        nothing(27, "item: CAST", RefusalsBoundaries::some, x -> x.item(2, 1, 0, 77), CAST);
        nothing(27, "item: INDEX", RefusalsBoundaries::some, x -> x.item(2, 2, 5, 77), INDEX);
        nothing(28, "film: BAD", RefusalsBoundaries::some, x -> x.film(4, 0, 0), BAD);
        nothing(28, "film: NULL", RefusalsBoundaries::some, x -> x.film(3, 0, 0), NULL);
        nothing(28, "film: CAST", RefusalsBoundaries::some, x -> x.film(0, 1, 0), CAST);
        nothing(28, "film: INDEX, room for some", RefusalsBoundaries::some, x -> x.film(0, 0, 3), INDEX);
    }

    private void promise7ChangesAsTold() {
        e.sentence(7, NOTHING);
        ToothStones x = full();
        String before = Edges.table(x);
        e.is("a FAULT", x.stones(), -25);
        e.same("the table", Edges.table(x), before);
        e.is("but THE TAPE is empty", x.type('3', 1), 1);
    }
}
