/** Boundary cases of promise 7: THE TAPE read as a text, its signs one by one, and its FAULTS. */
final class TextBoundaries {
    private static final String BLANKS = " ".repeat(80);

    private final Edges e;

    TextBoundaries(Edges e) {
        this.e = e;
    }

    void all() {
        promise7TapeIsEmptyThen();
        promise7NothingIsLeftBehindTheEnd();
        promise7ThoseToldStay();
        promise7OneToEight();
        promise7FirstDigit();
        promise7SecondDigit();
        promise7SignBehindTwoDigits();
        promise7SignBehindAKind();
        promise7MarksBelowTeeth();
        promise7SignBehindMarks();
        promise7SignBehindAComma();
        promise7InPlaceOfThoseTold();
        promise7FaultPlaces();
        promise7BlanksDoNotCount();
        promise7TheEnd();
        promise7ZeroBytes();
        promise7EightyBytes();
    }

    private static int read(String text) {
        return Due.read(new ToothStones(), text);
    }

    /** What stones() answers to a text that has each sign a byte can be at one place. */
    private interface Rule {
        int due(char sign);
    }

    private void signs(String ahead, String behind, Rule rule) {
        for (char sign = 32; sign <= 126; sign++) {
            String text = ahead + sign + behind;
            e.is("'" + text + "'", read(text), rule.due(sign));
        }
    }

    private static boolean isFrom(char sign, char least, char most) {
        return sign >= least && sign <= most;
    }

    private void promise7TapeIsEmptyThen() {
        e.sentence(7, "THE TAPE, which is empty then (whatever is answered), is STONES: how many.");
        for (String text : new String[] {"", " ", "33", "33,33", "3", "x", "33,", BLANKS, "33" + BLANKS.substring(2)}) {
            ToothStones x = new ToothStones();
            Due.typed(x, text);
            x.stones();
            e.is("behind '" + text.strip() + "', of " + text.length(), x.stones(), -20);
            e.is("and one byte more", x.type('3', 1), 1);
        }
        ToothStones x = new ToothStones();
        Due.typed(x, "33,44,");
        x.stones();
        e.is("nothing is left of a FAULT's", Due.read(x, "55"), 1);
        e.is("how many", Due.read(x, "55,66"), 2);
    }

    private void promise7NothingIsLeftBehindTheEnd() {
        e.sentence(7, "THE TAPE, which is empty then (whatever is answered), is STONES: how many.");
        String good = "34p@12,56s@45,78h";
        for (int length = 0; length <= good.length(); length++) {
            ToothStones x = new ToothStones();
            Due.read(x, good);
            String ahead = good.substring(0, length);
            e.is("'" + ahead + "' where '" + good + "' was", Due.read(x, ahead), read(ahead));
            e.same("its table", Edges.table(x), Edges.table(length > 1 && read(ahead) > 0 ? Due.of(ahead) : Due.of(good)));
        }
    }

    private void promise7ThoseToldStay() {
        e.sentence(7, "A FAULT (those told stay).");
        for (String text : new String[] {"", "2", "3", "33,", "33,44,2", "33@33", "33,33,33,33,33,33,33,33,33", BLANKS}) {
            ToothStones x = StonesBoundaries.some();
            ToothStones twin = StonesBoundaries.some();
            x.deal(5, 1);
            twin.deal(5, 1);
            x.stones();
            twin.stones();
            e.is("a FAULT of '" + text.strip() + "'", Due.read(x, text) <= -20 ? 1 : 0, 1);
            e.same("those told, and all else", Edges.all(x), Edges.all(twin));
        }
    }

    private void promise7OneToEight() {
        e.sentence(7, "STONES are a TEXT: 1 to 8 with , between:");
        StringBuilder text = new StringBuilder();
        e.is("0 STONES", read(""), -20);
        e.is("0 STONES with a , ", read(","), -20);
        for (int stones = 1; stones <= 12; stones++) {
            text.append(stones == 1 ? "" : ",").append("34");
            e.is(stones + " STONES", read(text.toString()), stones <= 8 ? stones : -20 - 23);
            e.is(stones + " STONES and a , ", read(text + ","), stones < 8 ? -20 - text.length() - 1 : -20 - 23);
        }
        e.is("no , between", read("3434"), -22);
        e.is("two , between", read("34,,34"), -23);
    }

    private void promise7FirstDigit() {
        e.sentence(7, "two digits 3 .. 9,");
        // behind a blank 3 is the first digit, and the second is missed at the end
        signs("", "3", sign -> isFrom(sign, '3', '9') ? 1 : sign == ' ' ? -22 : -20);
        for (char sign = '3'; sign <= '9'; sign++) {
            ToothStones x = new ToothStones();
            Due.read(x, sign + "3");
            e.is("TEETH of " + sign + "3", x.told(0, 1), sign - '0');
        }
    }

    private void promise7SecondDigit() {
        e.sentence(7, "two digits 3 .. 9,");
        signs("3", "", sign -> isFrom(sign, '3', '9') ? 1 : sign == ' ' ? -22 : -21);
        for (char sign = '3'; sign <= '9'; sign++) {
            ToothStones x = new ToothStones();
            Due.read(x, "3" + sign);
            e.is("TEETH of 3" + sign, x.told(0, 2), sign - '0');
        }
    }

    private void promise7SignBehindTwoDigits() {
        e.sentence(7, "perhaps p, s or h (PAWLED, STIFF, HEAVY),");
        signs("33", "", sign -> sign == 'p' || sign == 's' || sign == 'h' || sign == ' ' ? 1
                : sign == '@' || sign == ',' ? -23 : -22);
        String kinds = "-psh";
        for (int kind = 1; kind < 4; kind++) {
            ToothStones x = new ToothStones();
            Due.read(x, "33" + kinds.charAt(kind));
            e.is("KIND of 33" + kinds.charAt(kind), x.told(0, 0), kind);
        }
        ToothStones x = StonesBoundaries.twelve(3, 3, 3);
        Due.read(x, "33");
        e.is("KIND of 33, ahead of it HEAVY ones", x.told(0, 0), 0);
    }

    private void promise7SignBehindAKind() {
        e.sentence(7, "perhaps p, s or h (PAWLED, STIFF, HEAVY),");
        for (char kind : new char[] {'p', 's', 'h'}) {
            signs("33" + kind, "", sign -> sign == ' ' ? 1 : sign == '@' || sign == ',' ? -24 : -23);
        }
    }

    private void promise7MarksBelowTeeth() {
        e.sentence(7, "perhaps @ and two digits (MARKS, below their TEETH):");
        for (char teeth = '3'; teeth <= '9'; teeth++) {
            char its = teeth;
            // the other WHEEL has 9 TEETH, or 3: its TEETH do not bound this MARK
            for (char other : new char[] {'3', '9'}) {
                signs(teeth + "" + other + "@", "0", sign -> isFrom(sign, '0', (char) (its - 1)) ? 1 : sign == ' ' ? -25 : -23);
                signs(other + "" + teeth + "@0", "", sign -> isFrom(sign, '0', (char) (its - 1)) ? 1 : sign == ' ' ? -25 : -24);
            }
            ToothStones x = new ToothStones();
            Due.read(x, teeth + "" + teeth + "@0" + (char) (teeth - 1) + "," + teeth + teeth + "@" + (char) (teeth - 1) + "0");
            e.is("the least and the greatest", Due.marks(x, 0), teeth - '1');
            e.is("the greatest and the least", Due.marks(x, 1), 10 * (teeth - '1'));
        }
        e.is("one digit", read("33@0"), -24);
        e.is("no digit", read("33@"), -23);
        e.is("one digit and a , ", read("33@0,33"), -24);
    }

    private void promise7SignBehindMarks() {
        e.sentence(7, "perhaps @ and two digits (MARKS, below their TEETH):");
        signs("33@00", "", sign -> sign == ' ' ? 1 : sign == ',' ? -26 : -25);
        signs("33h@22", "", sign -> sign == ' ' ? 1 : sign == ',' ? -27 : -26);
    }

    private void promise7SignBehindAComma() {
        e.sentence(7, "STONES are a TEXT: 1 to 8 with , between:");
        signs("33,", "3", sign -> isFrom(sign, '3', '9') ? 2 : sign == ' ' ? -25 : -23);
    }

    private void promise7InPlaceOfThoseTold() {
        e.sentence(7, "in place of those told (all on THE HEAP, no TRAIN, no SCORES; THE DRAW, the IMAGE stay).");
        ToothStones x = StonesBoundaries.twelve(3, 3, 3);
        for (int stone = 0; stone < 12; stone++) {
            x.deal(stone, stone % 2);
            x.mark(stone, 0, 2);
        }
        x.seed(Integer.MAX_VALUE);
        x.image();
        for (int stone = 0; stone < 12; stone++) {
            x.mark(stone, 0, 0);
            if (stone < 10) {
                x.lay(stone, 1);
            }
        }
        x.shut(true);
        e.is("one in place of twelve", Due.read(x, "98s@87"), 1);
        e.same("the table", Edges.table(x), "counts 1 0 0 0 0 0 0 0, stone 0 2 9 8 8 7 -4 -4 -4, draw " + Integer.MAX_VALUE);
        e.is("STONE 1 is none", x.told(1, 0), -1);
        e.is("eight in place of one", Due.read(x, "33,33,33,33,33,33,33,33"), 8);
        for (int stone = 0; stone < 8; stone++) {
            e.is("MARKS not told are 0", Due.marks(x, stone), 0);
            e.is("on THE HEAP", x.told(stone, 7), -4);
            e.is("not laid", x.told(stone, 5), -4);
        }
        e.is("the IMAGE stays", x.restore(), 1);
        e.is("its STONES", x.count(0), 12);
        e.is("its MARKS", Due.marks(x, 11), 20);
        e.is("its HANDS", x.count(2), 6);
        e.is("no TRAIN: the next is the first again", Due.read(x, "99") == 1 ? x.lay(0, 0) : -1, 0);
        e.is("its place", x.told(0, 5), 0);
    }

    private void promise7FaultPlaces() {
        e.sentence(7, "FAULTS: -20 less the place of the first byte (blanks do not count) that can't stand there "
                + "(the end: how many bytes there are).");
        String good = "33p@00,44s@11,55h@22,66p@33,77s@44,88h@55,99p@66,99s@88";
        e.is("the longest text", read(good), 8);
        for (int place = 0; place < good.length(); place++) {
            for (String bad : new String[] {"!", "~", "P", "-"}) {
                e.is("'" + bad + "' at " + place, read(good.substring(0, place) + bad + good.substring(place + 1)), -20 - place);
                e.is("'" + bad + "' put in at " + place, read(good.substring(0, place) + bad + good.substring(place)), -20 - place);
            }
        }
        e.is("'!' behind it", read(good + "!"), -20 - good.length());
        e.is("the first of two", read("33!33!"), -22);
        e.is("at 79", read(good + BLANKS.substring(0, 79 - good.length()) + "!"), -20 - 79);
    }

    private void promise7BlanksDoNotCount() {
        e.sentence(7, "FAULTS: -20 less the place of the first byte (blanks do not count) that can't stand there "
                + "(the end: how many bytes there are).");
        String good = "33p@12,44s@33,55h";
        for (int place = 0; place <= good.length(); place++) {
            for (int blanks = 1; blanks <= 3; blanks++) {
                String text = good.substring(0, place) + BLANKS.substring(0, blanks) + good.substring(place);
                e.is("'" + text + "', a blank is no FAULT", read(text), 3);
                // places are those on THE TAPE as it was typed, as BlankTapeRun of ../shared/tests asks of the end
                e.is("'" + text + "!'", read(text + "!"), -20 - text.length());
                e.is("'" + text + "' and a , ", read(text + ","), -20 - text.length() - 1);
                String torn = good.substring(0, place) + BLANKS.substring(0, blanks) + "!" + good.substring(place);
                e.is("'" + torn + "'", read(torn), -20 - place - blanks);
            }
        }
        e.is("blanks between all", read(" 3  4 s @ 1  2 , 5 5 "), 2);
    }

    private void promise7TheEnd() {
        e.sentence(7, "FAULTS: -20 less the place of the first byte (blanks do not count) that can't stand there "
                + "(the end: how many bytes there are).");
        String good = "34p@12,56s@45,78h";
        // how many STONES stand if it ends there, or 0 where it can't
        int[] stands = {0, 0, 1, 1, 0, 0, 1, 0, 0, 2, 2, 0, 0, 2, 0, 0, 3, 3};
        for (int length = 0; length <= good.length(); length++) {
            for (int blanks = 0; blanks <= 2; blanks++) {
                String text = good.substring(0, length) + BLANKS.substring(0, blanks);
                int due = stands[length] > 0 ? stands[length] : -20 - length - blanks;
                e.is("'" + text + "'", read(text), due);
            }
        }
    }

    private void promise7ZeroBytes() {
        e.sentence(7, "(the end: how many bytes there are)");
        e.is("of an empty TAPE", new ToothStones().stones(), -20);
        e.is("of an empty TAPE, STONES told", Due.of("33").stones(), -20);
    }

    private void promise7EightyBytes() {
        e.sentence(7, "(the end: how many bytes there are)");
        for (int bytes = 1; bytes <= 80; bytes++) {
            e.is(bytes + " blanks", read(BLANKS.substring(0, bytes)), -20 - bytes);
            e.is("3 behind blanks, " + bytes + " in all", read(BLANKS.substring(0, bytes - 1) + "3"), -20 - bytes);
            e.is("3 ahead of blanks, " + bytes + " in all", read("3" + BLANKS.substring(0, bytes - 1)), -20 - bytes);
        }
        e.is("80 bytes, all good", read("33" + BLANKS.substring(0, 78)), 1);
        e.is("80 bytes, the last is of the text", read("3" + BLANKS.substring(0, 78) + "3"), 1);
    }
}
