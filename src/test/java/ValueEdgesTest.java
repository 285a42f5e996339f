/** The edges of values, options, settings and locks: VALUES and SETTINGS, promises 3 to 5 and 21. */
public final class ValueEdgesTest {
    private static final int[] FAR = {Integer.MIN_VALUE, Integer.MAX_VALUE};

    public static void main(String[] args) {
        values();
        value();
        options();
        settings();
        set();
        lock();
        masters();
        Check.end();
    }

    private static void values() {
        Sentence.holds("Terms", "of TEXT and NUMBER up to 30, 14 SIGNS", ValueEdgesTest::aTextHoldsThirtySigns);
        Sentence.holds("Terms", "of TEXT and NUMBER up to 30, 14 SIGNS", ValueEdgesTest::aNumberHoldsFourteenSigns);
        Sentence.holds("Terms", "(none at first; TEXT 32 .. 126", ValueEdgesTest::thereAreNoSignsAtFirst);
        Sentence.holds("Terms", "(none at first; TEXT 32 .. 126", ValueEdgesTest::theSignsOfATextAre32To126);
        Sentence.holds("Terms", "NUMBER 48 .. 57, 45, 46)", ValueEdgesTest::theSignsOfANumberAreDigits45And46);
        Sentence.holds("Terms", "of a BOX 0 (at first) or 1", ValueEdgesTest::aBoxIs0AtFirst);
        Sentence.holds("Terms", "of a RADIO or CHOICE one of its OPTIONS, or none (at first)", ValueEdgesTest::noOptionIsPickedAtFirst);
    }

    private static void value() {
        Sentence.holds("Promise 3", "A SIGN behind those of a TEXT or NUMBER (-1: they are gone): how many it has", ValueEdgesTest::signsComeBehindAndAreGone);
        Sentence.holds("Promise 3", "or the VALUE of a BOX", ValueEdgesTest::aBoxTells0Or1);
        Sentence.holds("Promise 3", "or the number of an OPTION (-1: none; of a RADIO only when it may be OFF, or has none): that", ValueEdgesTest::aChoiceMayBeNoneAlways);
        Sentence.holds("Promise 3", "of a RADIO only when it may be OFF, or has none", ValueEdgesTest::aRadioIsNoneWhenItMayBeOff);
        Sentence.holds("Promise 3", "of a RADIO only when it may be OFF, or has none", ValueEdgesTest::aRadioWithNoneMayBeToldNone);
        Sentence.holds("Promise 3", "NoSuchElementException; IllegalArgumentException, also of a GROUP", ValueEdgesTest::valueOfNoField);
        Sentence.holds("Promise 3", "NoSuchElementException; IllegalArgumentException, also of a GROUP", ValueEdgesTest::noSuchValue);
        Sentence.holds("Promise 3", "NoSuchElementException; IllegalArgumentException, also of a GROUP", ValueEdgesTest::noValueOfAGroup);
        Sentence.holds("Promise 3", "IllegalStateException when it is LOCKED", ValueEdgesTest::lockedOfEveryKind);
        Sentence.holds("Promise 3", "or FLAT itself", ValueEdgesTest::flatOfEveryKind);
        Sentence.holds("Promise 3", "or FLAT itself", ValueEdgesTest::onlyTheFlatOneItselfIsClosed);
        Sentence.holds("Promise 3", "UnsupportedOperationException when it has all SIGNS", ValueEdgesTest::allSignsAreThere);
        Sentence.holds("Promise 3", "or as many as CELLS", ValueEdgesTest::asManySignsAsCells);
    }

    private static void options() {
        Sentence.holds("Terms", "OPTIONS 0, 1, .. (12 at most) have each a CODE 0 .. 99999, all different.", ValueEdgesTest::twelveOptions);
        Sentence.holds("Promise 4", "An OPTION of a RADIO or CHOICE: its number.", ValueEdgesTest::optionTellsItsNumber);
        Sentence.holds("Promise 4", "NoSuchElementException", ValueEdgesTest::optionOfNoField);
        Sentence.holds("Promise 4", "IllegalArgumentException: its KIND", ValueEdgesTest::optionsOfOtherKinds);
        Sentence.holds("Promise 4", "IllegalArgumentException: its KIND, the CODE, or it is there", ValueEdgesTest::noSuchCode);
        Sentence.holds("Promise 4", "or it is there", ValueEdgesTest::theCodeIsThere);
        Sentence.holds("Promise 4", "UnsupportedOperationException when there are 12", ValueEdgesTest::theThirteenthIsRefused);
    }

    private static void settings() {
        Sentence.holds("Terms", "0 whether it is REQUIRED", ValueEdgesTest::requiredIs0Or1);
        Sentence.holds("Terms", "1 how many CELLS a TEXT has (0: none; 30 at most, and not less than its SIGNS then)", ValueEdgesTest::thirtyCellsAtMost);
        Sentence.holds("Terms", "and not less than its SIGNS then", ValueEdgesTest::notLessCellsThanSigns);
        Sentence.holds("Terms", "(0: none; 30 at most", ValueEdgesTest::noCellsMayAlwaysBe);
        Sentence.holds("Terms", "2 whether a RADIO may be OFF", ValueEdgesTest::offIs0Or1);
        Sentence.holds("Terms", "3 how many DECIMALS a NUMBER shows (0 .. 3; at first 3)", ValueEdgesTest::decimalsAre0To3);
        Sentence.holds("Terms", "4 whether it shows COMMAS (all 0, 1, 0 at first, but 3)", ValueEdgesTest::commasAre0Or1);
        Sentence.holds("Terms", "5 the WIDTH, 6 the HEIGHT (0 .. 100000, at first 800 and 160)", ValueEdgesTest::theWidthIs0To100000);
        Sentence.holds("Terms", "5 the WIDTH, 6 the HEIGHT (0 .. 100000, at first 800 and 160)", ValueEdgesTest::theHeightIs0To100000);
        Sentence.holds("Terms", "7 the SIDE (0 left, 1 middle, 2 right)", ValueEdgesTest::theSideIs0To2);
    }

    private static void set() {
        Sentence.holds("Promise 5", "A SETTING: what it was.", ValueEdgesTest::setTellsWhatItWas);
        Sentence.holds("Promise 5", "NoSuchElementException", ValueEdgesTest::setOfNoField);
        Sentence.holds("Promise 5", "IllegalArgumentException: the GROUP", ValueEdgesTest::noSettingOfAGroup);
        Sentence.holds("Promise 5", "IllegalArgumentException: the GROUP, the SETTING", ValueEdgesTest::noSuchSetting);
        Sentence.holds("Promise 5", "(1 is of TEXT, 2 of RADIOS, 3 and 4 of NUMBERS alone)", ValueEdgesTest::settingsOfOneKindAlone);
        Sentence.holds("Promise 5", "or v.", ValueEdgesTest::noSuchSettingValue);
    }

    private static void lock() {
        Sentence.holds("Promise 21", "A field is LOCKED, or not: what it was (1, 0).", ValueEdgesTest::lockTellsWhatItWas);
        Sentence.holds("Promise 21", "NoSuchElementException", ValueEdgesTest::lockOfNoField);
        Sentence.holds("Promise 21", "IllegalArgumentException: a GROUP.", ValueEdgesTest::noLockOfAGroup);
    }

    private static void masters() {
        Sentence.holds("Terms", "what is told of a field is told of its MASTER", ValueEdgesTest::valuesAreOfTheMaster);
        Sentence.holds("Terms", "what is told of a field is told of its MASTER", ValueEdgesTest::optionsAreOfTheMaster);
        Sentence.holds("Terms", "what is told of a field is told of its MASTER", ValueEdgesTest::settings0To4AreOfTheMaster);
        Sentence.holds("Terms", "what is told of a field is told of its MASTER", ValueEdgesTest::locksAreOfTheMaster);
        Sentence.holds("Terms", "what is told of a field is told of its MASTER", ValueEdgesTest::aLateFieldFindsWhatWasTold);
        Sentence.holds("Terms", "but for its width, height and side", ValueEdgesTest::widthHeightAndSideAreItsOwn);
        Sentence.holds("Terms", "but for its width, height and side", ValueEdgesTest::aLateFieldHasItsOwnWidthHeightAndSide);
    }

    /** It takes so many signs and no more, and is as it was then. */
    private static void dueRoom(int kind, int room, char sign) {
        Form x = new Form();
        int field = x.top(kind, 1);
        for (int i = 1; i <= room; i++) {
            int count = i;
            Check.due("sign " + count, count, () -> x.f.value(field, sign));
        }
        Check.refused("one more", Form.FULL, () -> x.f.value(field, sign));
        Check.same("data", ("" + sign).repeat(room), x.lineOf("1"));
        Check.due("gone", 0, () -> x.f.value(field, -1));
        Check.due("the first again", 1, () -> x.f.value(field, sign));
    }

    private static void aTextHoldsThirtySigns() {
        dueRoom(Form.TEXT, 30, '~');
    }

    private static void aNumberHoldsFourteenSigns() {
        dueRoom(Form.NUMBER, 14, '9');
        dueRoom(Form.NUMBER, 14, '-');
    }

    private static void thereAreNoSignsAtFirst() {
        Form x = Form.everyKind();
        for (int field : new int[] {Form.TEXT, Form.NUMBER}) {
            Check.due("nothing shown", -1, () -> x.f.shown(field, 0));
            Check.same("data", "", x.lineOf("" + field));
            Check.due("gone already", 0, () -> x.f.value(field, -1));
        }
    }

    private static void theSignsOfATextAre32To126() {
        for (int c = -300; c <= 300; c++) {
            Form x = new Form();
            int t = x.top(Form.TEXT, 1);
            int sign = c;
            if (sign >= 32 && sign <= 126) {
                Check.due("sign " + sign, 1, () -> x.f.value(t, sign));
                Check.due("shown", sign, () -> x.f.shown(t, 0));
            } else if (sign == -1) {
                Check.due("gone", 0, () -> x.f.value(t, sign));
            } else {
                Check.refused("sign " + sign, Form.ARGUMENT, () -> x.f.value(t, sign));
            }
        }
    }

    private static void theSignsOfANumberAreDigits45And46() {
        for (int c = -300; c <= 300; c++) {
            Form x = new Form();
            int n = x.top(Form.NUMBER, 1);
            int sign = c;
            if (sign >= 48 && sign <= 57 || sign == 45 || sign == 46) {
                Check.due("sign " + sign, 1, () -> x.f.value(n, sign));
                Check.due("shown", sign, () -> x.f.shown(n, 0));
            } else if (sign == -1) {
                Check.due("gone", 0, () -> x.f.value(n, sign));
            } else {
                Check.refused("sign " + sign, Form.ARGUMENT, () -> x.f.value(n, sign));
            }
        }
    }

    private static void aBoxIs0AtFirst() {
        Form x = new Form();
        int b = x.top(Form.BOX, 1);
        x.dueData("1=0\n");
        Check.due("nothing shown", -1, () -> x.f.shown(b, 0));
        Check.due("1", 1, () -> x.f.value(b, 1));
        x.dueData("1=1\n");
        Check.due("1 again", 1, () -> x.f.value(b, 1));
        Check.due("0", 0, () -> x.f.value(b, 0));
        x.dueData("1=0\n");
    }

    private static void noOptionIsPickedAtFirst() {
        Form x = Form.everyKind();
        for (int field : new int[] {Form.RADIO, Form.CHOICE}) {
            x.f.option(field, 0);
            Check.due("nothing shown", -1, () -> x.f.shown(field, 0));
            Check.same("data", "", x.lineOf("" + field));
            Check.due("picked", 0, () -> x.f.value(field, 0));
            Check.same("data", "0", x.lineOf("" + field));
        }
    }

    private static void signsComeBehindAndAreGone() {
        Form x = Form.everyKind();
        for (int field : new int[] {Form.TEXT, Form.NUMBER}) {
            Check.due("first", 1, () -> x.f.value(field, '4'));
            Check.due("second", 2, () -> x.f.value(field, '-'));
            Check.due("third", 3, () -> x.f.value(field, '4'));
            x.dueShown("4-4", field);
            Check.due("gone", 0, () -> x.f.value(field, -1));
            x.dueShown("", field);
            Check.due("gone again", 0, () -> x.f.value(field, -1));
            Check.due("first again", 1, () -> x.f.value(field, '.'));
            x.dueShown(".", field);
        }
    }

    private static void aBoxTells0Or1() {
        Form x = new Form();
        int b = x.top(Form.BOX, 1);
        Check.due("1", 1, () -> x.f.value(b, 1));
        Check.due("0", 0, () -> x.f.value(b, 0));
        Check.due("0 again", 0, () -> x.f.value(b, 0));
    }

    private static void aChoiceMayBeNoneAlways() {
        Form x = new Form();
        int c = x.top(Form.CHOICE, 1);
        Check.due("none where no options are", -1, () -> x.f.value(c, -1));
        x.f.option(c, 31);
        x.f.option(c, 41);
        Check.due("the last", 1, () -> x.f.value(c, 1));
        x.dueShown("41", c);
        Check.due("the first", 0, () -> x.f.value(c, 0));
        x.dueShown("31", c);
        Check.due("none", -1, () -> x.f.value(c, -1));
        x.dueShown("", c);
    }

    private static void aRadioIsNoneWhenItMayBeOff() {
        Form x = new Form();
        int r = x.top(Form.RADIO, 1);
        x.f.option(r, 31);
        x.f.option(r, 41);
        Check.due("the last", 1, () -> x.f.value(r, 1));
        Check.refused("not none", Form.ARGUMENT, () -> x.f.value(r, -1));
        x.dueShown("41", r);
        Check.due("another", 0, () -> x.f.value(r, 0));
        Check.refused("nor from the first", Form.ARGUMENT, () -> x.f.value(r, -1));
        x.dueShown("31", r);
        x.f.set(r, 2, 1);
        Check.due("none now", -1, () -> x.f.value(r, -1));
        x.dueShown("", r);
    }

    private static void aRadioWithNoneMayBeToldNone() {
        Form x = new Form();
        int r = x.top(Form.RADIO, 1);
        Check.due("none where no options are", -1, () -> x.f.value(r, -1));
        x.f.option(r, 31);
        Check.due("none where none is", -1, () -> x.f.value(r, -1));
        x.f.set(r, 2, 1);
        x.f.value(r, 0);
        x.f.value(r, -1);
        x.f.set(r, 2, 0);
        Check.due("none since it was off", -1, () -> x.f.value(r, -1));
    }

    private static void valueOfNoField() {
        Form x = Form.everyKind();
        Form.dueMissing("value", 6, n -> x.f.value(n, -1));
        Form.dueMissing("value", 6, n -> x.f.value(n, 0));
    }

    private static void dueNoValues(Form x, int field, int... values) {
        for (int c : values) {
            Check.refused("value " + c + " of field " + field, Form.ARGUMENT, () -> x.f.value(field, c));
        }
        for (int c : FAR) {
            Check.refused("value " + c + " of field " + field, Form.ARGUMENT, () -> x.f.value(field, c));
        }
    }

    private static void noSuchValue() {
        Form x = Form.everyKind();
        dueNoValues(x, Form.TEXT, -2, 0, 1, 10, 31, 127, 128, 255, 256, 32 + 256);
        dueNoValues(x, Form.NUMBER, -2, 0, 1, 43, 44, 47, 58, 48 + 256);
        dueNoValues(x, Form.BOX, -2, -1, 2, 48, 49);
        dueNoValues(x, Form.RADIO, -2, 0, 1);
        dueNoValues(x, Form.CHOICE, -2, 0, 1);
        x.f.option(Form.RADIO, 5);
        x.f.option(Form.CHOICE, 5);
        dueNoValues(x, Form.RADIO, -2, 1, 5, 12);
        dueNoValues(x, Form.CHOICE, -2, 1, 5, 12);
        x.dueData("1=\n2=0\n3=\n4=\n5=\n");
    }

    private static void noValueOfAGroup() {
        Form x = new Form();
        int g = x.top(Form.GROUP, 1);
        dueNoValues(x, g, -2, -1, 0, 1, 48, 65);
    }

    private static Form everyKindTold() {
        Form x = Form.everyKind();
        x.tell(Form.TEXT, "a");
        x.f.value(Form.BOX, 1);
        x.f.option(Form.RADIO, 8);
        x.f.set(Form.RADIO, 2, 1);
        x.f.value(Form.RADIO, 0);
        x.f.option(Form.CHOICE, 8);
        x.f.value(Form.CHOICE, 0);
        x.tell(Form.NUMBER, "8");
        return x;
    }

    /** Every value that the field of each kind could be told else is refused now. */
    private static void dueClosed(Form x) {
        int[][] could = {{}, {-1, 'b'}, {0, 1}, {-1, 0}, {-1, 0}, {-1, '9'}};
        for (int kind = Form.TEXT; kind <= Form.NUMBER; kind++) {
            int field = kind;
            for (int c : could[kind]) {
                Check.refused("value " + c + " of kind " + kind, Form.STATE, () -> x.f.value(field, c));
            }
        }
        x.dueData("1=a\n2=1\n3=8\n4=8\n5=8\n");
    }

    private static void lockedOfEveryKind() {
        Form x = everyKindTold();
        for (int kind = Form.TEXT; kind <= Form.NUMBER; kind++) {
            x.f.lock(kind, true);
        }
        dueClosed(x);
        for (int kind = Form.TEXT; kind <= Form.NUMBER; kind++) {
            x.f.lock(kind, false);
        }
        Check.due("open again", 2, () -> x.f.value(Form.TEXT, 'b'));
        Check.due("open again", 0, () -> x.f.value(Form.BOX, 0));
        Check.due("open again", -1, () -> x.f.value(Form.RADIO, -1));
        Check.due("open again", -1, () -> x.f.value(Form.CHOICE, -1));
        Check.due("open again", 0, () -> x.f.value(Form.NUMBER, -1));
    }

    private static void flatOfEveryKind() {
        Form x = everyKindTold();
        for (int kind = Form.TEXT; kind <= Form.NUMBER; kind++) {
            x.f.flatten(kind);
        }
        dueClosed(x);
    }

    private static void onlyTheFlatOneItselfIsClosed() {
        Form x = new Form();
        int t = x.top(Form.TEXT, 1);
        int second = x.top(Form.TEXT, 1);
        int third = x.top(Form.TEXT, 1);
        x.f.flatten(t);
        Check.refused("the master is flat", Form.STATE, () -> x.f.value(t, 'a'));
        Check.due("the second is not", 1, () -> x.f.value(second, 'a'));
        x.f.flatten(third);
        Check.refused("the third is flat", Form.STATE, () -> x.f.value(third, 'a'));
        Check.due("the second is not", 2, () -> x.f.value(second, 'b'));
        x.dueShown("ab", t);
    }

    private static void allSignsAreThere() {
        Form x = Form.everyKind();
        x.tell(Form.TEXT, "a".repeat(29));
        Check.due("the thirtieth", 30, () -> x.f.value(Form.TEXT, 'b'));
        Check.refused("one more", Form.FULL, () -> x.f.value(Form.TEXT, 'c'));
        x.dueShown("a".repeat(29) + "b", Form.TEXT);
        x.tell(Form.NUMBER, "1".repeat(13));
        Check.due("the fourteenth", 14, () -> x.f.value(Form.NUMBER, '2'));
        Check.refused("one more", Form.FULL, () -> x.f.value(Form.NUMBER, '3'));
        x.dueShown("1".repeat(13) + "2", Form.NUMBER);
        Check.due("they may be gone", 0, () -> x.f.value(Form.TEXT, -1));
        Check.due("they may be gone", 0, () -> x.f.value(Form.NUMBER, -1));
    }

    private static void asManySignsAsCells() {
        for (int cells : new int[] {1, 2, 14, 15, 29, 30}) {
            Form x = new Form();
            int t = x.top(Form.TEXT, 1);
            x.f.set(t, 1, cells);
            for (int i = 1; i <= cells; i++) {
                int count = i;
                Check.due("sign in cells", count, () -> x.f.value(t, 'a'));
            }
            Check.refused("sign behind " + cells + " cells", Form.FULL, () -> x.f.value(t, 'b'));
            x.dueShown("a".repeat(cells), t);
            if (cells < 30) {
                x.f.set(t, 1, cells + 1);
                Check.due("with one cell more", cells + 1, () -> x.f.value(t, 'c'));
                Check.refused("and no more", Form.FULL, () -> x.f.value(t, 'd'));
            }
            Check.due("they may be gone", 0, () -> x.f.value(t, -1));
        }
    }

    private static void twelveOptions() {
        Form x = Form.everyKind();
        int[] codes = {0, 1, 9, 10, 11, 12, 99, 100, 9999, 10000, 99998, 99999};
        for (int field : new int[] {Form.RADIO, Form.CHOICE}) {
            for (int i = 0; i < 12; i++) {
                int number = i;
                Check.refused("not yet", Form.ARGUMENT, () -> x.f.value(field, number));
                Check.due("option", number, () -> x.f.option(field, codes[number]));
            }
            for (int i = 0; i < 12; i++) {
                int number = i;
                Check.due("picked", number, () -> x.f.value(field, number));
                Check.same("its code", "" + codes[number], x.shown(field));
            }
            Check.refused("no thirteenth", Form.ARGUMENT, () -> x.f.value(field, 12));
        }
    }

    private static void optionTellsItsNumber() {
        Form x = Form.everyKind();
        for (int field : new int[] {Form.RADIO, Form.CHOICE}) {
            Check.due("first", 0, () -> x.f.option(field, 500));
            Check.due("second", 1, () -> x.f.option(field, 400));
            Check.refused("refused", Form.ARGUMENT, () -> x.f.option(field, 400));
            Check.due("third", 2, () -> x.f.option(field, 600));
        }
    }

    private static void optionOfNoField() {
        Form x = Form.everyKind();
        Form.dueMissing("option", 6, n -> x.f.option(n, 0));
    }

    private static void optionsOfOtherKinds() {
        Form x = Form.everyKind();
        for (int kind : new int[] {Form.GROUP, Form.TEXT, Form.BOX, Form.NUMBER}) {
            Check.refused("kind " + kind, Form.ARGUMENT, () -> x.f.option(kind, 0));
        }
    }

    private static void noSuchCode() {
        Form x = Form.everyKind();
        for (int field : new int[] {Form.RADIO, Form.CHOICE}) {
            for (int code : new int[] {-1, 100000, Integer.MIN_VALUE, Integer.MAX_VALUE}) {
                Check.refused("code " + code, Form.ARGUMENT, () -> x.f.option(field, code));
            }
            Check.due("code 0", 0, () -> x.f.option(field, 0));
            Check.due("code 99999", 1, () -> x.f.option(field, 99999));
        }
    }

    private static void theCodeIsThere() {
        Form x = new Form();
        int r = x.top(Form.RADIO, 1);
        int c = x.top(Form.CHOICE, 2);
        Check.due("first", 0, () -> x.f.option(r, 0));
        Check.refused("first again", Form.ARGUMENT, () -> x.f.option(r, 0));
        Check.due("second", 1, () -> x.f.option(r, 7));
        Check.refused("second again", Form.ARGUMENT, () -> x.f.option(r, 7));
        Check.due("of another it is not", 0, () -> x.f.option(c, 7));
    }

    private static void theThirteenthIsRefused() {
        Form x = Form.everyKind();
        for (int field : new int[] {Form.RADIO, Form.CHOICE}) {
            for (int i = 0; i < 12; i++) {
                int number = i;
                Check.due("option", number, () -> x.f.option(field, 100 + number));
            }
            Check.refused("the thirteenth", Form.FULL, () -> x.f.option(field, 0));
            Check.refused("again", Form.FULL, () -> x.f.option(field, 99999));
            Check.refused("there is no thirteenth", Form.ARGUMENT, () -> x.f.value(field, 12));
        }
    }

    /** From 0, or the least, to the most, and neither below nor above; at first as told. */
    private static void dueRange(int field, int what, int atFirst, int most) {
        Form x = Form.everyKind();
        for (int v : new int[] {-1, most + 1, -most, Integer.MIN_VALUE, Integer.MAX_VALUE}) {
            if (v != 0) {
                Check.refused("setting " + what + " to " + v, Form.ARGUMENT, () -> x.f.set(field, what, v));
            }
        }
        Check.due("setting " + what + " at first", atFirst, () -> x.f.set(field, what, most));
        Check.due("setting " + what + " at most", most, () -> x.f.set(field, what, 0));
        Check.due("setting " + what + " at least", 0, () -> x.f.set(field, what, most - 1));
        Check.due("setting " + what + " below the most", most - 1, () -> x.f.set(field, what, 1));
        Check.due("setting " + what + " above the least", 1, () -> x.f.set(field, what, 0));
    }

    private static void requiredIs0Or1() {
        for (int kind = Form.TEXT; kind <= Form.NUMBER; kind++) {
            dueRange(kind, 0, 0, 1);
        }
    }

    private static void thirtyCellsAtMost() {
        dueRange(Form.TEXT, 1, 0, 30);
    }

    private static void notLessCellsThanSigns() {
        for (int signs : new int[] {1, 2, 15, 29, 30}) {
            Form x = new Form();
            int t = x.top(Form.TEXT, 1);
            x.tell(t, "a".repeat(signs));
            if (signs > 1) {
                Check.refused("one cell less than " + signs, Form.ARGUMENT, () -> x.f.set(t, 1, signs - 1));
                Check.refused("one cell for " + signs, Form.ARGUMENT, () -> x.f.set(t, 1, 1));
            }
            Check.due("as many cells as " + signs, 0, () -> x.f.set(t, 1, signs));
            Check.due("and no cells", signs, () -> x.f.set(t, 1, 0));
            x.f.value(t, -1);
            Check.due("one cell when they are gone", 0, () -> x.f.set(t, 1, 1));
        }
    }

    private static void noCellsMayAlwaysBe() {
        Form x = new Form();
        int t = x.top(Form.TEXT, 1);
        x.tell(t, "a".repeat(30));
        Check.due("none where none are", 0, () -> x.f.set(t, 1, 0));
        Check.due("thirty", 0, () -> x.f.set(t, 1, 30));
        Check.due("none", 30, () -> x.f.set(t, 1, 0));
        x.tell(t, "abc");
        x.f.set(t, 1, 3);
        x.f.set(t, 1, 0);
        Check.due("none are no bound", 4, () -> x.f.value(t, 'd'));
    }

    private static void offIs0Or1() {
        dueRange(Form.RADIO, 2, 0, 1);
    }

    private static void decimalsAre0To3() {
        dueRange(Form.NUMBER, 3, 3, 3);
    }

    private static void commasAre0Or1() {
        dueRange(Form.NUMBER, 4, 0, 1);
    }

    private static void theWidthIs0To100000() {
        for (int kind = Form.TEXT; kind <= Form.NUMBER; kind++) {
            dueRange(kind, 5, 800, 100000);
        }
    }

    private static void theHeightIs0To100000() {
        for (int kind = Form.TEXT; kind <= Form.NUMBER; kind++) {
            dueRange(kind, 6, 160, 100000);
        }
    }

    private static void theSideIs0To2() {
        for (int kind = Form.TEXT; kind <= Form.NUMBER; kind++) {
            dueRange(kind, 7, 0, 2);
        }
    }

    private static void setTellsWhatItWas() {
        Form x = Form.everyKind();
        int[] of = {Form.BOX, Form.TEXT, Form.RADIO, Form.NUMBER, Form.NUMBER, Form.CHOICE, Form.CHOICE, Form.CHOICE};
        int[] atFirst = {0, 0, 0, 3, 0, 800, 160, 0};
        for (int what = 0; what < 8; what++) {
            int w = what;
            Check.due("setting " + w + " at first", atFirst[w], () -> x.f.set(of[w], w, 1));
            Check.due("setting " + w + " now", 1, () -> x.f.set(of[w], w, 1));
            Check.due("setting " + w + " again", 1, () -> x.f.set(of[w], w, 0));
        }
    }

    private static void setOfNoField() {
        Form x = Form.everyKind();
        for (int what = 0; what < 8; what++) {
            int w = what;
            Form.dueMissing("setting " + w, 6, n -> x.f.set(n, w, 0));
        }
    }

    private static void noSettingOfAGroup() {
        Form x = Form.everyKind();
        for (int what = 0; what < 8; what++) {
            int w = what;
            Check.refused("setting " + w + " of a group", Form.ARGUMENT, () -> x.f.set(Form.GROUP, w, 0));
            Check.refused("setting " + w + " of a group", Form.ARGUMENT, () -> x.f.set(Form.GROUP, w, 1));
        }
    }

    private static void noSuchSetting() {
        Form x = Form.everyKind();
        for (int kind = Form.TEXT; kind <= Form.NUMBER; kind++) {
            int field = kind;
            for (int what : new int[] {-1, 8, 9, Integer.MIN_VALUE, Integer.MAX_VALUE}) {
                Check.refused("setting " + what, Form.ARGUMENT, () -> x.f.set(field, what, 0));
            }
        }
    }

    private static void settingsOfOneKindAlone() {
        Form x = Form.everyKind();
        int[] owner = {-1, Form.TEXT, Form.RADIO, Form.NUMBER, Form.NUMBER};
        for (int what = 1; what <= 4; what++) {
            for (int kind = Form.GROUP; kind <= Form.NUMBER; kind++) {
                int w = what;
                int field = kind;
                if (kind == owner[what]) {
                    Check.due("setting " + what, what == 3 ? 3 : 0, () -> x.f.set(field, w, 0));
                } else {
                    Check.refused("setting " + what + " of kind " + kind, Form.ARGUMENT, () -> x.f.set(field, w, 0));
                    Check.refused("setting " + what + " of kind " + kind, Form.ARGUMENT, () -> x.f.set(field, w, 1));
                }
            }
        }
    }

    private static void noSuchSettingValue() {
        Form x = Form.everyKind();
        int[] of = {Form.TEXT, Form.TEXT, Form.RADIO, Form.NUMBER, Form.NUMBER, Form.BOX, Form.BOX, Form.BOX};
        int[] most = {1, 30, 1, 3, 1, 100000, 100000, 2};
        int[] atFirst = {0, 0, 0, 3, 0, 800, 160, 0};
        for (int what = 0; what < 8; what++) {
            int w = what;
            for (int v : new int[] {-1, most[w] + 1, Integer.MIN_VALUE, Integer.MAX_VALUE}) {
                Check.refused("setting " + w + " to " + v, Form.ARGUMENT, () -> x.f.set(of[w], w, v));
            }
            Check.due("setting " + w + " is as it was", atFirst[w], () -> x.f.set(of[w], w, most[w]));
        }
    }

    private static void lockTellsWhatItWas() {
        Form x = Form.everyKind();
        for (int kind = Form.TEXT; kind <= Form.NUMBER; kind++) {
            int field = kind;
            Check.due("not at first", 0, () -> x.f.lock(field, false));
            Check.due("nor then", 0, () -> x.f.lock(field, true));
            Check.due("locked", 1, () -> x.f.lock(field, true));
            Check.due("still", 1, () -> x.f.lock(field, false));
            Check.due("no more", 0, () -> x.f.lock(field, false));
        }
    }

    private static void lockOfNoField() {
        Form x = Form.everyKind();
        Form.dueMissing("lock", 6, n -> x.f.lock(n, true));
        Form.dueMissing("unlock", 6, n -> x.f.lock(n, false));
    }

    private static void noLockOfAGroup() {
        Form x = new Form();
        int g = x.top(Form.GROUP, 1);
        Check.refused("lock", Form.ARGUMENT, () -> x.f.lock(g, true));
        Check.refused("unlock", Form.ARGUMENT, () -> x.f.lock(g, false));
        int t = x.f.field(g, Form.TEXT, 1);
        Check.due("what is in it is free", 1, () -> x.f.value(t, 'a'));
    }

    private static void valuesAreOfTheMaster() {
        Form x = new Form();
        int t = x.top(Form.TEXT, 1);
        int u = x.top(Form.TEXT, 1);
        Check.due("by the second", 1, () -> x.f.value(u, 'a'));
        Check.due("by the first", 2, () -> x.f.value(t, 'b'));
        x.dueShown("ab", t);
        x.dueShown("ab", u);
        Check.due("gone by the second", 0, () -> x.f.value(u, -1));
        x.dueShown("", t);
        int b = x.top(Form.BOX, 2);
        int c = x.top(Form.BOX, 2);
        x.f.value(c, 1);
        x.dueShown("X", b);
    }

    private static void optionsAreOfTheMaster() {
        Form x = new Form();
        int r = x.top(Form.RADIO, 1);
        int s = x.top(Form.RADIO, 1);
        for (int i = 0; i < 12; i++) {
            int number = i;
            Check.due("option", number, () -> x.f.option(number % 2 == 0 ? s : r, number));
        }
        Check.refused("there by the other", Form.ARGUMENT, () -> x.f.option(r, 0));
        Check.refused("full by both", Form.FULL, () -> x.f.option(r, 50));
        Check.refused("full by both", Form.FULL, () -> x.f.option(s, 50));
        x.f.value(s, 11);
        x.dueShown("11", r);
        Check.refused("the other is on", Form.ARGUMENT, () -> x.f.value(r, -1));
    }

    private static void settings0To4AreOfTheMaster() {
        int[] of = {Form.BOX, Form.TEXT, Form.RADIO, Form.NUMBER, Form.NUMBER};
        for (int what = 0; what <= 4; what++) {
            Form x = new Form();
            int w = what;
            int first = x.top(of[w], 1);
            int second = x.top(of[w], 1);
            x.f.set(second, w, 1);
            Check.due("setting " + w + " by the second", 1, () -> x.f.set(first, w, 0));
            Check.due("setting " + w + " by the first", 0, () -> x.f.set(second, w, 1));
        }
    }

    private static void locksAreOfTheMaster() {
        Form x = new Form();
        int b = x.top(Form.BOX, 1);
        int c = x.top(Form.BOX, 1);
        x.f.lock(c, true);
        Check.refused("locked by the second", Form.STATE, () -> x.f.value(b, 1));
        Check.due("and unlocked", 1, () -> x.f.lock(b, false));
        Check.due("for both", 1, () -> x.f.value(c, 1));
    }

    private static void aLateFieldFindsWhatWasTold() {
        Form x = new Form();
        int t = x.top(Form.TEXT, 1);
        x.tell(t, "abc");
        x.f.set(t, 0, 1);
        x.f.set(t, 1, 3);
        x.f.lock(t, true);
        int late = x.top(Form.TEXT, 1);
        x.dueShown("abc", late);
        Check.refused("locked", Form.STATE, () -> x.f.value(late, 'd'));
        Check.due("locked", 1, () -> x.f.lock(late, false));
        Check.refused("three cells", Form.FULL, () -> x.f.value(late, 'd'));
        Check.due("required", 1, () -> x.f.set(late, 0, 1));
    }

    private static void widthHeightAndSideAreItsOwn() {
        Form x = new Form();
        x.top(Form.TEXT, 1);
        x.top(Form.TEXT, 1);
        x.top(Form.TEXT, 1);
        int[] atFirst = {800, 160, 0};
        for (int what = 5; what <= 7; what++) {
            int w = what;
            for (int field = 2; field >= 0; field--) {
                int own = field;
                Check.due("setting " + w + " of " + own, atFirst[w - 5], () -> x.f.set(own, w, own));
            }
            for (int field = 0; field <= 2; field++) {
                int own = field;
                Check.due("setting " + w + " of " + own, own, () -> x.f.set(own, w, 0));
            }
        }
    }

    private static void aLateFieldHasItsOwnWidthHeightAndSide() {
        Form x = new Form();
        int b = x.top(Form.BOX, 1);
        x.f.set(b, 5, 1);
        x.f.set(b, 6, 2);
        x.f.set(b, 7, 2);
        int late = x.top(Form.BOX, 1);
        Check.due("width", 800, () -> x.f.set(late, 5, 0));
        Check.due("height", 160, () -> x.f.set(late, 6, 0));
        Check.due("side", 0, () -> x.f.set(late, 7, 0));
        Check.due("width of the first", 1, () -> x.f.set(b, 5, 0));
        Check.due("height of the first", 2, () -> x.f.set(b, 6, 0));
        Check.due("side of the first", 2, () -> x.f.set(b, 7, 0));
    }
}
