/** The edges of what is shown, sizes, marks and the page: the terms of these, promises 11, 12 and 14 to 17. */
public final class PageEdgesTest {
    private static final int WIDTH = 5;
    private static final int HEIGHT = 6;
    private static final int SIDE = 7;
    private static final int CELLS = 1;

    public static void main(String[] args) {
        shown();
        size();
        marks();
        appearanceAndMark();
        flatten();
        page();
        Check.end();
    }

    private static void shown() {
        Sentence.holds("Terms", "SHOWN: of TEXT its SIGNS", PageEdgesTest::aTextShowsItsSigns);
        Sentence.holds("Terms", "of a BOX 88 if it is 1", PageEdgesTest::aBoxShows88);
        Sentence.holds("Terms", "of a RADIO or CHOICE the digits of the CODE", PageEdgesTest::codesAreShownInDigits);
        Sentence.holds("Promise 11", "SIGN i of what is SHOWN; -1 when there is none", PageEdgesTest::shownBeforeAndBehind);
        Sentence.holds("Promise 11", "(of a GROUP, too)", PageEdgesTest::aGroupShowsNothing);
        Sentence.holds("Promise 11", "NoSuchElementException.", PageEdgesTest::shownOfNoField);
    }

    private static void size() {
        Sentence.holds("Terms", "SIZES are 96, 48, 24, 12, 6.", PageEdgesTest::theFiveSizes);
        Sentence.holds("Terms", "A SIGN is half as wide as the SIZE.", PageEdgesTest::oneSignIsHalfAsWide);
        Sentence.holds("Terms", "is not wider than the WIDTH", PageEdgesTest::justAsWideAndOneLess);
        Sentence.holds("Terms", "One FITS if all that is SHOWN", PageEdgesTest::allThatIsShownCounts);
        Sentence.holds("Terms", "One FITS if all that is SHOWN", PageEdgesTest::nothingFitsIntoNoWidth);
        Sentence.holds("Terms", "(of a TEXT with CELLS as many SIGNS as these)", PageEdgesTest::cellsCountInPlaceOfSigns);
        Sentence.holds("Terms", "and the SIZE and a quarter (cut off) not above the HEIGHT", PageEdgesTest::justAsHighAndOneLess);
        Sentence.holds("Terms", "The SIZE of a field is the greatest that FITS, else 6.", PageEdgesTest::theGreatestThatFitsBothWays);
        Sentence.holds("Promise 12", "The SIZE of a field; below 0 when it does not FIT.", PageEdgesTest::below0WhenItDoesNotFit);
        Sentence.holds("Promise 12", "NoSuchElementException", PageEdgesTest::sizeOfNoField);
        Sentence.holds("Promise 12", "IllegalArgumentException: a GROUP.", PageEdgesTest::sizeOfAGroup);
    }

    private static void marks() {
        Sentence.holds("Terms", "first 0 at (0, 0) of size 0, the frame", PageEdgesTest::theFrameIsFirst);
        Sentence.holds("Terms", "then each SIGN that is SHOWN", PageEdgesTest::eachSignHasAMark);
        Sentence.holds("Terms", "y (HEIGHT - SIZE) / 2", PageEdgesTest::yIsHalfOfWhatIsLeft);
        Sentence.holds("Terms", "with CELLS (c) of SIGN k: k WIDTH / c + (WIDTH / c - SIZE / 2) / 2", PageEdgesTest::signsInCells);
        Sentence.holds("Terms", "with CELLS (c) of SIGN k: k WIDTH / c + (WIDTH / c - SIZE / 2) / 2", PageEdgesTest::theWidestAndTheNarrowestCells);
        Sentence.holds("Terms", "else k SIZE / 2 behind the beginning, which is 0, half of what is left of the WIDTH, or all of it, by the SIDE", PageEdgesTest::theBeginningIsByTheSide);
        Sentence.holds("Terms", "(what is left may be below 0", PageEdgesTest::whatIsLeftMayBeBelow0);
        Sentence.holds("Terms", "divisions are cut off towards 0)", PageEdgesTest::divisionsAreCutOffTowards0);
    }

    private static void appearanceAndMark() {
        Sentence.holds("Promise 14", "The MARKS of a field are made: how many.", PageEdgesTest::howManyMarks);
        Sentence.holds("Promise 14", "NoSuchElementException", PageEdgesTest::appearanceOfNoField);
        Sentence.holds("Promise 14", "IllegalArgumentException: a GROUP.", PageEdgesTest::appearanceOfAGroup);
        Sentence.holds("Promise 15", "Of MARK i that was made last", PageEdgesTest::marksStayAsTheyWereMade);
        Sentence.holds("Promise 15", "0 the SIGN (0 the frame), 1 x, 2 y, 3 the SIZE.", PageEdgesTest::theFourPartsOfAMark);
        Sentence.holds("Promise 15", "IndexOutOfBoundsException.", PageEdgesTest::noSuchMark);
        Sentence.holds("Promise 15", "IndexOutOfBoundsException.", PageEdgesTest::noSuchPartOfAMark);
    }

    private static void flatten() {
        Sentence.holds("Promise 16", "The MARKS of a field come behind those of the page", PageEdgesTest::marksComeBehindThoseOfThePage);
        Sentence.holds("Promise 16", "and it is FLAT", PageEdgesTest::theFieldItselfIsFlat);
        Sentence.holds("Promise 16", "how many the page has", PageEdgesTest::howManyThePageHas);
        Sentence.holds("Promise 16", "NoSuchElementException", PageEdgesTest::flattenOfNoField);
        Sentence.holds("Promise 16", "IllegalArgumentException: a GROUP", PageEdgesTest::flattenOfAGroup);
        Sentence.holds("Promise 16", "IllegalStateException when it is FLAT", PageEdgesTest::flattenTwice);
        Sentence.holds("Promise 16", "UnsupportedOperationException when the page would have more than 400", PageEdgesTest::fourHundredAndOneMarks);
        Sentence.holds("Promise 16", "UnsupportedOperationException when the page would have more than 400", PageEdgesTest::aFullPage);
    }

    private static void page() {
        Sentence.holds("Promise 17", "Of MARK i of the page: 0 to 3 as mark()", PageEdgesTest::pageTellsWhatMarkTold);
        Sentence.holds("Promise 17", "4 its field", PageEdgesTest::pageTellsTheField);
        Sentence.holds("Promise 17", "IndexOutOfBoundsException.", PageEdgesTest::noSuchMarkOfThePage);
        Sentence.holds("Promise 17", "IndexOutOfBoundsException.", PageEdgesTest::noSuchPartOfAMarkOfThePage);
    }

    private static Form text(String signs) {
        Form x = new Form();
        x.top(Form.TEXT, 1);
        x.tell(0, signs);
        return x;
    }

    private static Form text(String signs, int cells, int width, int height, int side) {
        Form x = text(signs);
        x.f.set(0, CELLS, cells);
        x.f.set(0, WIDTH, width);
        x.f.set(0, HEIGHT, height);
        x.f.set(0, SIDE, side);
        return x;
    }

    private static void aTextShowsItsSigns() {
        for (String signs : new String[] {"", " ", "  ", "-1.50", "1000", "a".repeat(30)}) {
            text(signs).dueShown(signs, 0);
        }
    }

    private static void aBoxShows88() {
        Form x = new Form();
        int b = x.top(Form.BOX, 1);
        Check.due("0", -1, () -> x.f.shown(b, 0));
        x.f.value(b, 1);
        Check.due("1", 88, () -> x.f.shown(b, 0));
        Check.due("one sign", -1, () -> x.f.shown(b, 1));
        x.f.value(b, 0);
        Check.due("0 again", -1, () -> x.f.shown(b, 0));
    }

    private static void codesAreShownInDigits() {
        Form x = Form.everyKind();
        int[] codes = {0, 7, 10, 100, 1000, 10000, 90909, 99999};
        for (int field : new int[] {Form.RADIO, Form.CHOICE}) {
            x.dueShown("", field);
            for (int code : codes) {
                x.f.value(field, x.f.option(field, code));
                x.dueShown("" + code, field);
            }
        }
        x.f.value(Form.CHOICE, -1);
        x.dueShown("", Form.CHOICE);
    }

    private static void shownBeforeAndBehind() {
        Form x = Form.everyKind();
        x.tell(Form.TEXT, "a".repeat(30));
        x.f.value(Form.BOX, 1);
        x.f.value(Form.RADIO, x.f.option(Form.RADIO, 99999));
        x.f.value(Form.CHOICE, x.f.option(Form.CHOICE, 0));
        x.tell(Form.NUMBER, "-999999999.995");
        x.f.set(Form.NUMBER, 3, 2);
        x.f.set(Form.NUMBER, 4, 1);
        int[] counts = {0, 30, 1, 5, 1, 17};
        int[] last = {-1, 'a', 'X', '9', '0', '0'};
        for (int kind = Form.TEXT; kind <= Form.NUMBER; kind++) {
            int field = kind;
            Check.due("the last", last[field], () -> x.f.shown(field, counts[field] - 1));
            for (int i : new int[] {-1, -2, counts[field], counts[field] + 1, 30, 31, Integer.MIN_VALUE, Integer.MAX_VALUE}) {
                Check.due("sign " + i + " of kind " + field, -1, () -> x.f.shown(field, i));
            }
        }
    }

    private static void aGroupShowsNothing() {
        Form x = new Form();
        int g = x.top(Form.GROUP, 1);
        int t = x.f.field(g, Form.TEXT, 1);
        x.tell(t, "a");
        for (int i : new int[] {-1, 0, 1, Integer.MIN_VALUE, Integer.MAX_VALUE}) {
            Check.due("sign " + i, -1, () -> x.f.shown(g, i));
        }
    }

    private static void shownOfNoField() {
        Form x = Form.everyKind();
        Form.dueMissing("shown", 6, n -> x.f.shown(n, 0));
        Form.dueMissing("shown", 6, n -> x.f.shown(n, -1));
    }

    private static void theFiveSizes() {
        Form x = text("");
        int[] heights = {120, 60, 30, 15, 7};
        int[] sizes = {96, 48, 24, 12, 6};
        for (int i = 0; i < 5; i++) {
            x.f.set(0, HEIGHT, heights[i]);
            Check.due("by height " + heights[i], sizes[i], () -> x.f.size(0));
        }
        x.f.set(0, HEIGHT, 100000);
        x.f.set(0, WIDTH, 100000);
        Check.due("none is greater", 96, () -> x.f.size(0));
    }

    private static void oneSignIsHalfAsWide() {
        int[] sizes = {96, 48, 24, 12, 6};
        for (int size : sizes) {
            Form x = text("a", 0, size / 2, 160, 0);
            Check.due("half of " + size, size, () -> x.f.size(0));
            Form less = text("a", 0, size / 2 - 1, 160, 0);
            Check.due("less than half of " + size, size == 6 ? -6 : size / 2, () -> less.f.size(0));
        }
    }

    private static void justAsWideAndOneLess() {
        for (int signs : new int[] {2, 7, 16, 17, 29, 30}) {
            for (int size : new int[] {96, 48, 24, 12, 6}) {
                Form x = text("a".repeat(signs), 0, signs * size / 2, 160, 0);
                Check.due(signs + " of " + size, size, () -> x.f.size(0));
                Form less = text("a".repeat(signs), 0, signs * size / 2 - 1, 160, 0);
                Check.due(signs + " in one less than " + size, size == 6 ? -6 : size / 2, () -> less.f.size(0));
            }
        }
    }

    private static void allThatIsShownCounts() {
        Form x = new Form();
        int n = x.top(Form.NUMBER, 1);
        x.tell(n, "1000");
        x.f.set(n, WIDTH, 4 * 48);
        x.f.set(n, 3, 0);
        Check.due("four signs", 96, () -> x.f.size(n));
        x.f.set(n, 4, 1);
        Check.due("and a comma", 48, () -> x.f.size(n));
        x.f.set(n, 3, 2);
        Check.due("and decimals: eight", 48, () -> x.f.size(n));
        x.f.set(n, 3, 3);
        Check.due("nine", 24, () -> x.f.size(n));
        x.f.value(n, -1);
        Check.due("nothing", 96, () -> x.f.size(n));
        int b = x.top(Form.BOX, 2);
        x.f.set(b, WIDTH, 47);
        Check.due("a box with 0", 96, () -> x.f.size(b));
        x.f.value(b, 1);
        Check.due("a box with 1", 48, () -> x.f.size(b));
        int c = x.top(Form.CHOICE, 3);
        x.f.set(c, WIDTH, 47);
        x.f.option(c, 10);
        Check.due("none picked", 96, () -> x.f.size(c));
        x.f.value(c, 0);
        Check.due("two digits", 24, () -> x.f.size(c));
    }

    private static void nothingFitsIntoNoWidth() {
        Form x = text("", 0, 0, 160, 0);
        Check.due("no signs in no width", 96, () -> x.f.size(0));
        x.f.value(0, 'a');
        Check.due("one sign", -6, () -> x.f.size(0));
    }

    private static void cellsCountInPlaceOfSigns() {
        for (int cells : new int[] {1, 2, 17, 30}) {
            Form x = text("", cells, cells * 48, 160, 0);
            Check.due("empty cells, just wide enough", 96, () -> x.f.size(0));
            x.f.set(0, WIDTH, cells * 48 - 1);
            Check.due("empty cells, one less", 48, () -> x.f.size(0));
            x.f.value(0, 'a');
            Check.due("one sign in them", 48, () -> x.f.size(0));
            x.f.set(0, WIDTH, cells * 3 - 1);
            Check.due("too narrow", -6, () -> x.f.size(0));
            x.f.set(0, CELLS, 0);
            Check.due("without cells", cells == 1 ? -6 : cells == 2 ? 6 : 96, () -> x.f.size(0));
        }
    }

    private static void justAsHighAndOneLess() {
        int[] heights = {120, 60, 30, 15, 7};
        int[] sizes = {96, 48, 24, 12, 6};
        for (int i = 0; i < 5; i++) {
            Form x = text("a", 0, 800, heights[i], 0);
            Check.due("height " + heights[i], sizes[i], () -> x.f.size(0));
            Form less = text("a", 0, 800, heights[i] - 1, 0);
            Check.due("one less than " + heights[i], i == 4 ? -6 : sizes[i + 1], () -> less.f.size(0));
        }
    }

    private static void theGreatestThatFitsBothWays() {
        Form wide = text("ab", 0, 100000, 29, 0);
        Check.due("the height says 12", 12, () -> wide.f.size(0));
        Form high = text("ab", 0, 24, 100000, 0);
        Check.due("the width says 24", 24, () -> high.f.size(0));
        Form both = text("ab", 0, 24, 29, 0);
        Check.due("the lesser of both", 12, () -> both.f.size(0));
        Form none = text("ab", 0, 5, 6, 0);
        Check.due("marks of 6 all the same", 3, () -> none.f.appearance(0));
        Check.due("6", 6, () -> none.f.mark(1, 3));
    }

    private static void below0WhenItDoesNotFit() {
        Form x = text("ab", 0, 6, 7, 0);
        Check.due("it fits just so", 6, () -> x.f.size(0));
        x.f.set(0, WIDTH, 5);
        Check.due("too narrow", -6, () -> x.f.size(0));
        x.f.set(0, WIDTH, 6);
        x.f.set(0, HEIGHT, 6);
        Check.due("too low", -6, () -> x.f.size(0));
        x.f.set(0, WIDTH, 0);
        x.f.set(0, HEIGHT, 0);
        Check.due("neither", -6, () -> x.f.size(0));
        x.f.value(0, -1);
        Check.due("nothing shown is too high, too", -6, () -> x.f.size(0));
    }

    private static void sizeOfNoField() {
        Form x = Form.everyKind();
        Form.dueMissing("size", 6, n -> x.f.size(n));
    }

    private static void sizeOfAGroup() {
        Form x = new Form();
        int g = x.top(Form.GROUP, 1);
        Check.refused("a group", Form.ARGUMENT, () -> x.f.size(g));
    }

    private static void theFrameIsFirst() {
        Form x = Form.everyKind();
        for (int kind = Form.TEXT; kind <= Form.NUMBER; kind++) {
            x.f.set(kind, SIDE, 2);
            x.dueMarks("0:0:0:0", kind);
        }
        Form cells = text("", 30, 800, 160, 1);
        cells.dueMarks("0:0:0:0", 0);
    }

    private static void eachSignHasAMark() {
        Form x = text("a".repeat(30), 0, 100000, 160, 0);
        Check.due("thirty and the frame", 31, () -> x.f.appearance(0));
        Check.due("the last", 29 * 48, () -> x.f.mark(30, 1));
        Check.due("the last", 'a', () -> x.f.mark(30, 0));
        Form y = text(" - ");
        y.dueMarks("0:0:0:0 32:0:32:96 45:48:32:96 32:96:32:96", 0);
        Form z = Form.everyKind();
        z.f.value(Form.BOX, 1);
        z.dueMarks("0:0:0:0 88:0:32:96", Form.BOX);
        z.tell(Form.NUMBER, "-1");
        z.f.set(Form.NUMBER, 3, 1);
        z.dueMarks("0:0:0:0 45:0:32:96 49:48:32:96 46:96:32:96 48:144:32:96", Form.NUMBER);
    }

    private static void dueY(int want, int height) {
        Form x = text("a", 0, 800, height, 0);
        x.f.appearance(0);
        Check.due("y of height " + height, want, () -> x.f.mark(1, 2));
    }

    private static void yIsHalfOfWhatIsLeft() {
        dueY(12, 120);
        dueY(35, 119);
        dueY(12, 121);
        dueY(13, 122);
        dueY(0, 7);
        dueY(0, 6);
        dueY(0, 5);
        dueY(-1, 4);
        dueY(-1, 3);
        dueY(-2, 1);
        dueY(-3, 0);
        dueY(49952, 100000);
    }

    private static void signsInCells() {
        text("abc", 3, 100, 160, 0).dueMarks("0:0:0:0 97:4:56:48 98:37:56:48 99:70:56:48", 0);
        text("abc", 3, 101, 160, 2).dueMarks("0:0:0:0 97:4:56:48 98:37:56:48 99:71:56:48", 0);
        text("abc", 7, 20, 160, 1).dueMarks("0:0:0:0 97:0:77:6 98:2:77:6 99:5:77:6", 0);
        for (int side = 0; side <= 2; side++) {
            text("a", 1, 800, 160, side).dueMarks("0:0:0:0 97:376:32:96", 0);
        }
        text("a", 30, 800, 160, 2).dueMarks("0:0:0:0 97:1:56:48", 0);
    }

    private static void theWidestAndTheNarrowestCells() {
        Form wide = text("a".repeat(30), 30, 100000, 160, 0);
        wide.f.appearance(0);
        Check.due("the first", (3333 - 48) / 2, () -> wide.f.mark(1, 1));
        Check.due("the last", 96666 + (3333 - 48) / 2, () -> wide.f.mark(30, 1));
        Form narrow = text("ab", 2, 0, 160, 0);
        narrow.dueMarks("0:0:0:0 97:-1:77:6 98:-1:77:6", 0);
        Form one = text("ab", 2, 1, 160, 0);
        one.dueMarks("0:0:0:0 97:-1:77:6 98:-1:77:6", 0);
        Form five = text("ab", 2, 5, 160, 0);
        five.dueMarks("0:0:0:0 97:0:77:6 98:2:77:6", 0);
    }

    private static void theBeginningIsByTheSide() {
        text("ab", 0, 100, 160, 0).dueMarks("0:0:0:0 97:0:32:96 98:48:32:96", 0);
        text("ab", 0, 100, 160, 1).dueMarks("0:0:0:0 97:2:32:96 98:50:32:96", 0);
        text("ab", 0, 100, 160, 2).dueMarks("0:0:0:0 97:4:32:96 98:52:32:96", 0);
        text("ab", 0, 96, 160, 1).dueMarks("0:0:0:0 97:0:32:96 98:48:32:96", 0);
        text("ab", 0, 96, 160, 2).dueMarks("0:0:0:0 97:0:32:96 98:48:32:96", 0);
        text("a", 0, 100000, 160, 2).dueMarks("0:0:0:0 97:99952:32:96", 0);
    }

    private static void whatIsLeftMayBeBelow0() {
        text("abc", 0, 4, 160, 0).dueMarks("0:0:0:0 97:0:77:6 98:3:77:6 99:6:77:6", 0);
        text("abc", 0, 4, 160, 1).dueMarks("0:0:0:0 97:-2:77:6 98:1:77:6 99:4:77:6", 0);
        text("abc", 0, 4, 160, 2).dueMarks("0:0:0:0 97:-5:77:6 98:-2:77:6 99:1:77:6", 0);
        Form x = text("a".repeat(30), 0, 0, 160, 2);
        x.f.appearance(0);
        Check.due("the farthest", -90, () -> x.f.mark(1, 1));
        Check.due("the last", -3, () -> x.f.mark(30, 1));
    }

    private static void divisionsAreCutOffTowards0() {
        // -5 by 2, and (1 - 6) by 2
        text("ab", 0, 1, 1, 1).dueMarks("0:0:0:0 97:-2:-2:6 98:1:-2:6", 0);
        // 5 by 2 of 101 - 96, and (161 - 96) by 2
        text("ab", 0, 101, 161, 1).dueMarks("0:0:0:0 97:2:32:96 98:50:32:96", 0);
        // (5 by 3 - 3) by 2 is -2 by 2, (2 by 3 - 3) by 2 is -3 by 2
        text("ab", 3, 5, 160, 0).dueMarks("0:0:0:0 97:-1:77:6 98:0:77:6", 0);
        text("abc", 3, 2, 160, 0).dueMarks("0:0:0:0 97:-1:77:6 98:-1:77:6 99:0:77:6", 0);
    }

    private static void howManyMarks() {
        Form x = text("");
        for (int i = 0; i <= 30; i++) {
            int signs = i;
            Check.due("marks of " + signs + " signs", signs + 1, () -> x.f.appearance(0));
            if (signs < 30) {
                x.f.value(0, 'a');
            }
        }
        Form y = Form.everyKind();
        y.tell(Form.NUMBER, "-999999999.995");
        y.f.set(Form.NUMBER, 3, 2);
        y.f.set(Form.NUMBER, 4, 1);
        Check.due("of the longest number", 18, () -> y.f.appearance(Form.NUMBER));
        y.f.lock(Form.NUMBER, true);
        y.f.flatten(Form.NUMBER);
        Check.due("also locked and flat", 18, () -> y.f.appearance(Form.NUMBER));
    }

    private static void appearanceOfNoField() {
        Form x = Form.everyKind();
        Form.dueMissing("appearance", 6, n -> x.f.appearance(n));
    }

    private static void appearanceOfAGroup() {
        Form x = Form.everyKind();
        Check.refused("a group", Form.ARGUMENT, () -> x.f.appearance(Form.GROUP));
        Check.refused("no marks were made", Form.INDEX, () -> x.f.mark(0, 0));
    }

    private static void marksStayAsTheyWereMade() {
        Form x = text("abc");
        int b = x.top(Form.BOX, 2);
        x.f.appearance(0);
        x.f.value(0, -1);
        x.f.set(0, WIDTH, 0);
        x.f.set(0, HEIGHT, 0);
        Check.due("the sign", 'c', () -> x.f.mark(3, 0));
        Check.due("x", 96, () -> x.f.mark(3, 1));
        Check.due("y", 32, () -> x.f.mark(3, 2));
        Check.due("the size", 96, () -> x.f.mark(3, 3));
        x.f.flatten(b);
        Check.due("flatten() makes none", 'c', () -> x.f.mark(3, 0));
        x.f.appearance(b);
        Check.due("the latest", 0, () -> x.f.mark(0, 0));
        Check.refused("alone", Form.INDEX, () -> x.f.mark(1, 0));
    }

    private static void theFourPartsOfAMark() {
        Form x = text("ab", 0, 200, 61, 2);
        x.f.appearance(0);
        int[][] want = {{0, 0, 0, 0}, {'a', 152, 6, 48}, {'b', 176, 6, 48}};
        for (int i = 0; i < want.length; i++) {
            for (int what = 0; what < 4; what++) {
                int at = i;
                int part = what;
                Check.due("part " + part + " of mark " + at, want[at][part], () -> x.f.mark(at, part));
            }
        }
    }

    private static void noSuchMark() {
        Form x = text("ab");
        for (int i : new int[] {-1, 0, 1, Integer.MIN_VALUE, Integer.MAX_VALUE}) {
            Check.refused("mark " + i + " before any", Form.INDEX, () -> x.f.mark(i, 0));
        }
        x.f.appearance(0);
        for (int i : new int[] {-1, 3, 4, 31, Integer.MIN_VALUE, Integer.MAX_VALUE}) {
            for (int what = 0; what < 4; what++) {
                int part = what;
                Check.refused("mark " + i, Form.INDEX, () -> x.f.mark(i, part));
            }
        }
        Check.due("the last", 'b', () -> x.f.mark(2, 0));
        x.tell(0, "a".repeat(30));
        x.f.appearance(0);
        Check.due("the thirtieth", 'a', () -> x.f.mark(30, 0));
        Check.refused("behind it", Form.INDEX, () -> x.f.mark(31, 0));
    }

    private static void noSuchPartOfAMark() {
        Form x = text("ab");
        x.f.appearance(0);
        for (int what : new int[] {-1, 4, 5, Integer.MIN_VALUE, Integer.MAX_VALUE}) {
            for (int i = 0; i < 3; i++) {
                int at = i;
                Check.refused("part " + what, Form.INDEX, () -> x.f.mark(at, what));
            }
        }
    }

    private static String page(Form x, int count) {
        StringBuilder all = new StringBuilder();
        for (int i = 0; i < count; i++) {
            all.append(i == 0 ? "" : " ");
            for (int what = 0; what <= 4; what++) {
                all.append(what == 0 ? "" : ":").append(x.f.page(i, what));
            }
        }
        return all.toString();
    }

    private static void marksComeBehindThoseOfThePage() {
        Form x = text("a");
        int b = x.top(Form.BOX, 2);
        x.f.value(b, 1);
        x.f.flatten(b);
        x.f.flatten(0);
        Check.same("page", "0:0:0:0:1 88:0:32:96:1 0:0:0:0:0 97:0:32:96:0", page(x, 4));
        Check.refused("no more", Form.INDEX, () -> x.f.page(4, 0));
        x.f.set(0, SIDE, 2);
        x.f.set(0, WIDTH, 0);
        x.f.calculate();
        Check.same("they stay", "0:0:0:0:1 88:0:32:96:1 0:0:0:0:0 97:0:32:96:0", page(x, 4));
    }

    private static void theFieldItselfIsFlat() {
        Form x = text("a");
        int same = x.top(Form.TEXT, 1);
        x.f.flatten(same);
        Check.refused("told no more", Form.STATE, () -> x.f.value(same, 'b'));
        Check.refused("flattened no more", Form.STATE, () -> x.f.flatten(same));
        Check.due("the master is told", 2, () -> x.f.value(0, 'b'));
        Check.due("the master is flattened", 5, () -> x.f.flatten(0));
        Check.refused("the master is told no more", Form.STATE, () -> x.f.value(0, 'c'));
    }

    private static void howManyThePageHas() {
        Form x = text("ab");
        int b = x.top(Form.BOX, 2);
        int same = x.top(Form.TEXT, 1);
        Check.due("a frame", 1, () -> x.f.flatten(b));
        Check.due("a frame and two", 4, () -> x.f.flatten(same));
        Check.due("once more", 7, () -> x.f.flatten(0));
    }

    private static void flattenOfNoField() {
        Form x = Form.everyKind();
        Form.dueMissing("flatten", 6, n -> x.f.flatten(n));
        Check.refused("the page is empty", Form.INDEX, () -> x.f.page(0, 0));
    }

    private static void flattenOfAGroup() {
        Form x = Form.everyKind();
        Check.refused("a group", Form.ARGUMENT, () -> x.f.flatten(Form.GROUP));
        Check.refused("the page is empty", Form.INDEX, () -> x.f.page(0, 0));
    }

    private static void flattenTwice() {
        Form x = Form.everyKind();
        for (int kind = Form.TEXT; kind <= Form.NUMBER; kind++) {
            int field = kind;
            Check.due("once", field, () -> x.f.flatten(field));
            Check.refused("twice", Form.STATE, () -> x.f.flatten(field));
        }
        Check.refused("five marks", Form.INDEX, () -> x.f.page(5, 0));
    }

    /** Fourteen texts of one name with thirty signs, of which twelve are on the page: 372 marks. */
    private static Form crowded() {
        Form x = text("a".repeat(30));
        for (int i = 1; i < 14; i++) {
            x.top(Form.TEXT, 1);
        }
        for (int i = 0; i < 12; i++) {
            int field = i;
            Check.due("page", 31 * (field + 1), () -> x.f.flatten(field));
        }
        return x;
    }

    private static void fourHundredAndOneMarks() {
        Form x = crowded();
        x.tell(12, "b".repeat(28));
        Check.refused("29 more than 372", Form.FULL, () -> x.f.flatten(12));
        Check.refused("none of them came", Form.INDEX, () -> x.f.page(372, 0));
        Check.due("it is not flat", 0, () -> x.f.value(12, -1));
        x.tell(12, "b".repeat(27));
        Check.due("28 more than 372", 400, () -> x.f.flatten(12));
        Check.due("the last", 'b', () -> x.f.page(399, 0));
        Check.refused("no more", Form.INDEX, () -> x.f.page(400, 0));
    }

    private static void aFullPage() {
        Form x = crowded();
        x.tell(12, "b".repeat(27));
        x.f.flatten(12);
        x.f.value(13, -1);
        Check.refused("a frame alone", Form.FULL, () -> x.f.flatten(13));
        Check.due("it is not flat", 1, () -> x.f.value(13, 'c'));
        Form y = crowded();
        y.tell(12, "b".repeat(26));
        Check.due("399", 399, () -> y.f.flatten(12));
        Check.refused("a frame and more", Form.FULL, () -> y.f.flatten(13));
        y.f.value(13, -1);
        Check.due("a frame alone", 400, () -> y.f.flatten(13));
    }

    private static void pageTellsWhatMarkTold() {
        Form x = text("abc", 5, 77, 33, 2);
        int n = x.top(Form.NUMBER, 2);
        x.tell(n, "-12.3456");
        x.f.set(n, SIDE, 1);
        int at = 0;
        for (int field : new int[] {n, 0}) {
            int count = x.f.appearance(field);
            x.f.flatten(field);
            for (int i = 0; i < count; i++) {
                for (int what = 0; what < 4; what++) {
                    int mark = i;
                    int part = what;
                    int onPage = at + i;
                    Check.due("part " + part, x.f.mark(mark, part), () -> x.f.page(onPage, part));
                }
            }
            at += count;
        }
    }

    private static void pageTellsTheField() {
        Form x = text("a");
        int same = x.top(Form.TEXT, 1);
        int third = x.top(Form.TEXT, 1);
        x.f.flatten(third);
        x.f.flatten(0);
        x.f.flatten(same);
        int[] want = {2, 2, 0, 0, 1, 1};
        for (int i = 0; i < want.length; i++) {
            int at = i;
            Check.due("field of mark " + at, want[at], () -> x.f.page(at, 4));
        }
    }

    private static void noSuchMarkOfThePage() {
        Form x = text("a");
        x.f.appearance(0);
        Check.refused("an empty page", Form.INDEX, () -> x.f.page(0, 0));
        x.f.flatten(0);
        for (int i : new int[] {-1, 2, 3, 399, 400, Integer.MIN_VALUE, Integer.MAX_VALUE}) {
            for (int what = 0; what <= 4; what++) {
                int part = what;
                Check.refused("mark " + i, Form.INDEX, () -> x.f.page(i, part));
            }
        }
        Check.due("the last", 'a', () -> x.f.page(1, 0));
    }

    private static void noSuchPartOfAMarkOfThePage() {
        Form x = text("a");
        x.f.flatten(0);
        for (int what : new int[] {-1, 5, 6, Integer.MIN_VALUE, Integer.MAX_VALUE}) {
            Check.refused("part " + what + " of the frame", Form.INDEX, () -> x.f.page(0, what));
            Check.refused("part " + what + " of the sign", Form.INDEX, () -> x.f.page(1, what));
        }
    }
}
