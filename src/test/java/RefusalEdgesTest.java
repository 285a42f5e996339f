import java.util.function.ToLongFunction;

/** The two sentences at the end of the terms, on calls that throw: for every call of the face. */
public final class RefusalEdgesTest {
    private static final String NOTHING = "A call that throws changes nothing";
    private static final String FIRST = "where several exceptions that a call names fit, it is the one that it names first";
    private static final int[] FAR = {Integer.MIN_VALUE, Integer.MAX_VALUE};

    public static void main(String[] args) {
        Sentence.holds("Terms", NOTHING, RefusalEdgesTest::fieldChangesNothing);
        Sentence.holds("Terms", NOTHING, RefusalEdgesTest::valueChangesNothing);
        Sentence.holds("Terms", NOTHING, RefusalEdgesTest::optionChangesNothing);
        Sentence.holds("Terms", NOTHING, RefusalEdgesTest::setChangesNothing);
        Sentence.holds("Terms", NOTHING, RefusalEdgesTest::boundsChangesNothing);
        Sentence.holds("Terms", NOTHING, RefusalEdgesTest::formulaChangesNothing);
        Sentence.holds("Terms", NOTHING, RefusalEdgesTest::failedAndFailsChangeNothing);
        Sentence.holds("Terms", NOTHING, RefusalEdgesTest::looksChangeNothing);
        Sentence.holds("Terms", NOTHING, RefusalEdgesTest::marksChangeNothing);
        Sentence.holds("Terms", NOTHING, RefusalEdgesTest::flattenChangesNothing);
        Sentence.holds("Terms", NOTHING, RefusalEdgesTest::atAndReadChangeNothing);
        Sentence.holds("Terms", NOTHING, RefusalEdgesTest::lockChangesNothing);
        Sentence.holds("Terms", FIRST, RefusalEdgesTest::fieldNamesFirst);
        Sentence.holds("Terms", FIRST, RefusalEdgesTest::valueNamesFirst);
        Sentence.holds("Terms", FIRST, RefusalEdgesTest::optionNamesFirst);
        Sentence.holds("Terms", FIRST, RefusalEdgesTest::setNamesFirst);
        Sentence.holds("Terms", FIRST, RefusalEdgesTest::boundsNamesFirst);
        Sentence.holds("Terms", FIRST, RefusalEdgesTest::formulaNamesFirst);
        Sentence.holds("Terms", FIRST, RefusalEdgesTest::flattenNamesFirst);
        Sentence.holds("Terms", FIRST, RefusalEdgesTest::readNamesFirst);
        Sentence.holds("Terms", "NoSuchElementException: there is no such field.", RefusalEdgesTest::fieldFortyIsNeverThere);
        Check.end();
    }

    private static final int GROUP = 0;
    private static final int TEXT = 1;
    private static final int BOX = 2;
    private static final int RADIO = 3;
    private static final int CHOICE = 4;
    private static final int NUMBER = 5;
    private static final int FLAT = 6;
    private static final int LOCKED = 7;
    private static final int SUM = 8;
    private static final int FAILING = 9;
    private static final int FIELDS = 10;

    /** A form with something of everything, so that a change of any of it can be seen. */
    private static Form busy() {
        Form x = Form.everyKind();
        x.top(Form.TEXT, 1);
        x.f.field(GROUP, Form.NUMBER, 7);
        x.f.field(GROUP, Form.NUMBER, 8);
        x.f.field(GROUP, Form.NUMBER, 9);
        x.tell(TEXT, "ab");
        x.f.set(TEXT, 1, 2);
        x.f.value(BOX, 1);
        x.f.option(RADIO, 11);
        x.f.option(RADIO, 12);
        x.f.value(RADIO, 1);
        for (int i = 0; i < 12; i++) {
            x.f.option(CHOICE, 20 + i);
        }
        x.f.value(CHOICE, 3);
        x.tell(NUMBER, "1234.567890123");
        x.f.bounds(NUMBER, -5000, 5000);
        x.tell(LOCKED, "4.5");
        x.f.bounds(LOCKED, 4000, 4500);
        x.f.set(LOCKED, 4, 1);
        x.f.set(LOCKED, 3, 2);
        x.f.lock(LOCKED, true);
        x.f.formula(SUM, 0, LOCKED, BOX);
        x.f.formula(FAILING, 7, 1, 0);
        x.f.fails(FAILING, true);
        x.f.calculate();
        x.f.appearance(RADIO);
        x.f.flatten(FLAT);
        x.f.write();
        x.send("1=z");
        return x;
    }

    /** All that calls tell of the form, first those that change nothing. */
    private static String everything(Form x) {
        StringBuilder all = new StringBuilder();
        row(all, "failed", 5, i -> x.f.failed(i - 1));
        for (int what = 0; what <= 4; what++) {
            int part = what;
            row(all, "mark", 5, i -> x.f.mark(i, part));
            row(all, "page", 10, i -> x.f.page(i, part));
        }
        row(all, "at", 80, i -> x.f.at(i));
        for (int field = 0; field < FIELDS; field++) {
            int n = field;
            row(all, "shown", 16, i -> x.f.shown(n, i));
            row(all, "size, validate", 2, i -> i == 0 ? x.f.size(n) : x.f.validate(n));
        }
        row(all, "read the end of the line", 2, i -> i == 0 ? x.f.read('\n') : x.f.read(-1));
        all.append(x.data());
        row(all, "calculate, failed", 4, i -> i == 0 ? x.f.calculate() : x.f.failed(i - 2));
        all.append(x.data());
        for (int field = 0; field < FIELDS; field++) {
            int n = field;
            row(all, "settings", 8, what -> x.f.set(n, what, 0));
            row(all, "lock, fails, formula, option", 4, i -> i == 0 ? x.f.lock(n, false) : i == 1 ? x.f.fails(n, false) : i == 2 ? x.f.formula(n, -1, 0, 0) : x.f.option(n, 5));
            row(all, "value", 3, i -> x.f.value(n, i - 1));
        }
        row(all, "field", 2, i -> x.top(Form.TEXT, i == 0 ? 998 : 999));
        bounds(all, x, NUMBER);
        bounds(all, x, LOCKED);
        return all.toString();
    }

    private static void row(StringBuilder all, String what, int count, Form.OfNumber call) {
        all.append(what);
        for (int i = 0; i < count; i++) {
            int at = i;
            all.append(' ').append(Check.answer(() -> call.answer(at)));
        }
        all.append('\n');
    }

    /** Where the rule of a number changes tells its bounds. */
    private static void bounds(StringBuilder all, Form x, int number) {
        String[] amounts = {"-999999999.999", "-5.001", "-5", "0", "0.001", "3.999", "4", "4.5", "4.501", "5", "5.001", "999999999.999"};
        for (String amount : amounts) {
            x.tell(number, amount);
            all.append(x.f.validate(number));
        }
    }

    /** The call is refused, and the form is as one without that call. */
    private static void dueNothing(String what, Class<? extends RuntimeException> want, ToLongFunction<FormFields> call) {
        Form x = busy();
        Check.refused(what, want, () -> call.applyAsLong(x.f));
        Check.same(what + " changes", everything(busy()), everything(x));
    }

    private static void fieldChangesNothing() {
        dueNothing("missing", Form.MISSING, f -> f.field(FIELDS, Form.TEXT, 900));
        dueNothing("kind", Form.ARGUMENT, f -> f.field(-1, 6, 900));
        dueNothing("name", Form.ARGUMENT, f -> f.field(-1, Form.TEXT, 1000));
        dueNothing("no group", Form.ARGUMENT, f -> f.field(TEXT, Form.TEXT, 900));
        dueNothing("another kind", Form.STATE, f -> f.field(-1, Form.TEXT, Form.NUMBER));
        Form full = new Form();
        for (int i = 0; i < 40; i++) {
            full.top(Form.BOX, i);
        }
        String before = full.data();
        Check.refused("the next", Form.FULL, () -> full.top(Form.BOX, 40));
        Check.same("data", before, full.data());
    }

    private static void valueChangesNothing() {
        dueNothing("missing", Form.MISSING, f -> f.value(FIELDS, -1));
        dueNothing("group", Form.ARGUMENT, f -> f.value(GROUP, -1));
        dueNothing("text", Form.ARGUMENT, f -> f.value(TEXT, 127));
        dueNothing("box", Form.ARGUMENT, f -> f.value(BOX, 2));
        dueNothing("radio not off", Form.ARGUMENT, f -> f.value(RADIO, -1));
        dueNothing("radio", Form.ARGUMENT, f -> f.value(RADIO, 2));
        dueNothing("choice", Form.ARGUMENT, f -> f.value(CHOICE, 12));
        dueNothing("number", Form.ARGUMENT, f -> f.value(NUMBER, 'a'));
        dueNothing("locked", Form.STATE, f -> f.value(LOCKED, -1));
        dueNothing("locked", Form.STATE, f -> f.value(LOCKED, '0'));
        dueNothing("flat", Form.STATE, f -> f.value(FLAT, -1));
        dueNothing("as many as cells", Form.FULL, f -> f.value(TEXT, 'c'));
        dueNothing("all signs", Form.FULL, f -> f.value(NUMBER, '0'));
    }

    private static void optionChangesNothing() {
        dueNothing("missing", Form.MISSING, f -> f.option(FIELDS, 77));
        dueNothing("kind", Form.ARGUMENT, f -> f.option(NUMBER, 77));
        dueNothing("code", Form.ARGUMENT, f -> f.option(RADIO, 100000));
        dueNothing("there", Form.ARGUMENT, f -> f.option(RADIO, 12));
        dueNothing("twelve", Form.FULL, f -> f.option(CHOICE, 77));
    }

    private static void setChangesNothing() {
        dueNothing("missing", Form.MISSING, f -> f.set(FIELDS, 0, 1));
        dueNothing("group", Form.ARGUMENT, f -> f.set(GROUP, 0, 1));
        dueNothing("group", Form.ARGUMENT, f -> f.set(GROUP, 5, 1));
        dueNothing("setting", Form.ARGUMENT, f -> f.set(TEXT, 8, 1));
        dueNothing("less cells than signs", Form.ARGUMENT, f -> f.set(TEXT, 1, 1));
        int[] most = {1, 30, 1, 3, 1, 100000, 100000, 2};
        int[] of = {BOX, TEXT, RADIO, NUMBER, NUMBER, CHOICE, CHOICE, CHOICE};
        for (int what = 0; what < 8; what++) {
            int w = what;
            dueNothing("above", Form.ARGUMENT, f -> f.set(of[w], w, most[w] + 1));
            dueNothing("below", Form.ARGUMENT, f -> f.set(of[w], w, -1));
        }
        for (int what = 1; what <= 4; what++) {
            int w = what;
            dueNothing("another kind", Form.ARGUMENT, f -> f.set(CHOICE, w, 1));
        }
    }

    private static long bound(FormFields f, int field, long least, long most) {
        f.bounds(field, least, most);
        return 0;
    }

    private static void boundsChangesNothing() {
        dueNothing("missing", Form.MISSING, f -> bound(f, FIELDS, 0, 1));
        dueNothing("kind", Form.ARGUMENT, f -> bound(f, BOX, 0, 1));
        dueNothing("beyond", Form.ARGUMENT, f -> bound(f, NUMBER, 0, 1000000000000L));
        dueNothing("beyond", Form.ARGUMENT, f -> bound(f, NUMBER, -1000000000000L, 0));
        dueNothing("the wrong way round", Form.ARGUMENT, f -> bound(f, NUMBER, 1, 0));
        dueNothing("the wrong way round", Form.ARGUMENT, f -> bound(f, LOCKED, 1, 0));
    }

    private static void formulaChangesNothing() {
        dueNothing("missing", Form.MISSING, f -> f.formula(FIELDS, 7, 1, 1));
        for (int op = 0; op <= 5; op++) {
            int o = op;
            dueNothing("a missing", Form.MISSING, f -> f.formula(SUM, o, FIELDS, BOX));
            dueNothing("b missing", Form.MISSING, f -> f.formula(SUM, o, BOX, FIELDS));
            dueNothing("a", Form.ARGUMENT, f -> f.formula(SUM, o, TEXT, BOX));
            dueNothing("b", Form.ARGUMENT, f -> f.formula(SUM, o, BOX, GROUP));
        }
        dueNothing("group missing", Form.MISSING, f -> f.formula(SUM, 6, -1, 0));
        dueNothing("no group", Form.ARGUMENT, f -> f.formula(SUM, 6, NUMBER, 0));
        dueNothing("op", Form.ARGUMENT, f -> f.formula(SUM, 8, NUMBER, NUMBER));
        dueNothing("op", Form.ARGUMENT, f -> f.formula(SUM, -2, NUMBER, NUMBER));
        dueNothing("kind", Form.ARGUMENT, f -> f.formula(TEXT, 7, 1, 0));
        dueNothing("kind", Form.ARGUMENT, f -> f.formula(BOX, -1, 0, 0));
    }

    private static void failedAndFailsChangeNothing() {
        dueNothing("failed", Form.INDEX, f -> f.failed(1));
        dueNothing("failed", Form.INDEX, f -> f.failed(-2));
        dueNothing("fails, missing", Form.MISSING, f -> f.fails(FIELDS, true));
        dueNothing("fails, kind", Form.ARGUMENT, f -> f.fails(BOX, true));
    }

    private static void looksChangeNothing() {
        dueNothing("shown", Form.MISSING, f -> f.shown(FIELDS, 0));
        dueNothing("size", Form.MISSING, f -> f.size(FIELDS));
        dueNothing("size", Form.ARGUMENT, f -> f.size(GROUP));
        dueNothing("validate", Form.MISSING, f -> f.validate(FIELDS));
        dueNothing("validate", Form.ARGUMENT, f -> f.validate(GROUP));
    }

    private static void marksChangeNothing() {
        dueNothing("appearance", Form.MISSING, f -> f.appearance(FIELDS));
        dueNothing("appearance", Form.ARGUMENT, f -> f.appearance(GROUP));
        dueNothing("mark", Form.INDEX, f -> f.mark(3, 0));
        dueNothing("mark", Form.INDEX, f -> f.mark(0, 4));
        dueNothing("page", Form.INDEX, f -> f.page(3, 0));
        dueNothing("page", Form.INDEX, f -> f.page(0, 5));
    }

    private static void flattenChangesNothing() {
        dueNothing("missing", Form.MISSING, f -> f.flatten(FIELDS));
        dueNothing("group", Form.ARGUMENT, f -> f.flatten(GROUP));
        dueNothing("flat", Form.STATE, f -> f.flatten(FLAT));
        Form x = fullPage();
        x.f.appearance(13);
        Check.refused("400", Form.FULL, () -> x.f.flatten(13));
        Check.refused("no mark came", Form.INDEX, () -> x.f.page(400, 0));
        Check.due("the last one stays", 12, () -> x.f.page(399, 4));
        Check.due("the marks that were made stay", 'c', () -> x.f.mark(1, 0));
        Check.due("it is not flat", 2, () -> x.f.value(13, 'd'));
    }

    private static void atAndReadChangeNothing() {
        dueNothing("at", Form.ARRAY_INDEX, f -> f.at(-1));
        dueNothing("at", Form.ARRAY_INDEX, f -> f.at(1000));
        dueNothing("read", Form.ARGUMENT, f -> f.read(256));
        dueNothing("read", Form.ARGUMENT, f -> f.read(-2));
        Form x = new Form();
        x.top(Form.TEXT, 1);
        x.send("1=\n".repeat(999) + "1=a");
        Check.refused("3000", Form.FULL, () -> x.f.read('\n'));
        Check.refused("3000", Form.FULL, () -> x.f.read('\n'));
        Check.due("the last line has no end", -1000, () -> x.f.read(-1));
        x.dueData("1=\n");
    }

    private static void lockChangesNothing() {
        dueNothing("missing", Form.MISSING, f -> f.lock(FIELDS, true));
        dueNothing("group", Form.ARGUMENT, f -> f.lock(GROUP, true));
        dueNothing("missing", Form.MISSING, f -> f.lock(-1, false));
    }

    /** Fourteen texts of one name; thirteen are flat, and the page has 400 marks; the last shows c. */
    private static Form fullPage() {
        Form x = new Form();
        x.top(Form.TEXT, 1);
        x.tell(0, "a".repeat(30));
        for (int i = 1; i < 14; i++) {
            x.top(Form.TEXT, 1);
        }
        x.top(Form.GROUP, 2);
        for (int i = 0; i < 12; i++) {
            x.f.flatten(i);
        }
        x.tell(12, "b".repeat(27));
        x.f.flatten(12);
        x.tell(13, "c");
        return x;
    }

    private static void fieldNamesFirst() {
        Form x = new Form();
        int g = x.top(Form.GROUP, 0);
        int t = x.top(Form.TEXT, 1);
        Check.refused("parent missing, kind", Form.MISSING, () -> x.f.field(2, 6, 1));
        Check.refused("parent missing, name", Form.MISSING, () -> x.f.field(-2, Form.TEXT, 1000));
        Check.refused("kind, another kind", Form.ARGUMENT, () -> x.f.field(-1, 6, 1));
        Check.refused("kind, another kind", Form.ARGUMENT, () -> x.f.field(-1, -1, 1));
        for (int i = 2; i < 40; i++) {
            x.f.field(g, Form.BOX, i);
        }
        Check.refused("parent missing, 40", Form.MISSING, () -> x.f.field(40, Form.TEXT, 1));
        Check.refused("all of it", Form.MISSING, () -> x.f.field(40, 6, 1000));
        Check.refused("kind, 40", Form.ARGUMENT, () -> x.f.field(-1, 6, 500));
        Check.refused("name, 40", Form.ARGUMENT, () -> x.f.field(-1, Form.TEXT, 1000));
        Check.refused("no group, 40", Form.ARGUMENT, () -> x.f.field(t, Form.TEXT, 500));
        Check.refused("another kind, 40", Form.STATE, () -> x.f.field(-1, Form.BOX, 1));
        Check.refused("another kind in a group, 40", Form.STATE, () -> x.f.field(g, Form.TEXT, 2));
        Check.refused("40 alone", Form.FULL, () -> x.f.field(g, Form.BOX, 2));
    }

    private static void valueNamesFirst() {
        Form x = busy();
        Check.refused("missing, value", Form.MISSING, () -> x.f.value(FIELDS, -2));
        x.f.lock(TEXT, true);
        Check.refused("value, locked, full", Form.ARGUMENT, () -> x.f.value(TEXT, 127));
        Check.refused("locked, full", Form.STATE, () -> x.f.value(TEXT, 'c'));
        Check.refused("value, locked, flat", Form.ARGUMENT, () -> x.f.value(FLAT, 127));
        x.f.lock(TEXT, false);
        Check.refused("value, flat, full", Form.ARGUMENT, () -> x.f.value(FLAT, 127));
        Check.refused("flat, full", Form.STATE, () -> x.f.value(FLAT, 'c'));
        Check.refused("value, full", Form.ARGUMENT, () -> x.f.value(TEXT, 31));
        Check.refused("value, full", Form.ARGUMENT, () -> x.f.value(NUMBER, 'a'));
        x.f.lock(NUMBER, true);
        Check.refused("locked, full", Form.STATE, () -> x.f.value(NUMBER, '1'));
        x.f.lock(RADIO, true);
        Check.refused("not off, locked", Form.ARGUMENT, () -> x.f.value(RADIO, -1));
        Check.refused("no option, locked", Form.ARGUMENT, () -> x.f.value(RADIO, 2));
        x.f.flatten(BOX);
        Check.refused("value, flat", Form.ARGUMENT, () -> x.f.value(BOX, 2));
        x.f.flatten(CHOICE);
        Check.refused("no option, flat", Form.ARGUMENT, () -> x.f.value(CHOICE, 12));
    }

    private static void optionNamesFirst() {
        Form x = busy();
        Check.refused("missing, code", Form.MISSING, () -> x.f.option(FIELDS, -1));
        Check.refused("code, 12", Form.ARGUMENT, () -> x.f.option(CHOICE, -1));
        Check.refused("code, 12", Form.ARGUMENT, () -> x.f.option(CHOICE, 100000));
        Check.refused("there, 12", Form.ARGUMENT, () -> x.f.option(CHOICE, 20));
        Check.refused("the last is there, 12", Form.ARGUMENT, () -> x.f.option(CHOICE, 31));
        Check.refused("12 alone", Form.FULL, () -> x.f.option(CHOICE, 32));
    }

    private static void setNamesFirst() {
        Form x = busy();
        for (int far : FAR) {
            Check.refused("missing, setting", Form.MISSING, () -> x.f.set(FIELDS, far, far));
            Check.refused("missing, setting", Form.MISSING, () -> x.f.set(far, 9, -1));
        }
    }

    private static void boundsNamesFirst() {
        Form x = busy();
        Check.refused("missing, the wrong way round", Form.MISSING, () -> bound(x.f, FIELDS, 1, 0));
        Check.refused("missing, beyond", Form.MISSING, () -> bound(x.f, -1, Long.MIN_VALUE, Long.MAX_VALUE));
    }

    private static void formulaNamesFirst() {
        Form x = busy();
        Check.refused("missing, op", Form.MISSING, () -> x.f.formula(FIELDS, 8, 0, 0));
        for (int op = 0; op <= 5; op++) {
            int o = op;
            Check.refused("a missing, kind", Form.MISSING, () -> x.f.formula(TEXT, o, FIELDS, BOX));
            Check.refused("b missing, kind", Form.MISSING, () -> x.f.formula(TEXT, o, BOX, FIELDS));
            Check.refused("a missing, kind of b", Form.MISSING, () -> x.f.formula(SUM, o, -1, TEXT));
            Check.refused("b missing, kind of a", Form.MISSING, () -> x.f.formula(SUM, o, TEXT, -1));
            Check.refused("missing, kinds of a and b", Form.MISSING, () -> x.f.formula(FIELDS, o, TEXT, TEXT));
        }
        Check.refused("group missing, kind", Form.MISSING, () -> x.f.formula(GROUP, 6, FIELDS, 0));
        Check.refused("missing, no group", Form.MISSING, () -> x.f.formula(FIELDS, 6, TEXT, 0));
        Check.refused("of other ops a and b are not asked", Form.ARGUMENT, () -> x.f.formula(SUM, 8, FIELDS, FIELDS));
        Check.refused("of other ops a and b are not asked", Form.ARGUMENT, () -> x.f.formula(TEXT, 7, FIELDS, FIELDS));
        Check.refused("of other ops a and b are not asked", Form.ARGUMENT, () -> x.f.formula(TEXT, -1, FIELDS, FIELDS));
    }

    private static void flattenNamesFirst() {
        Form x = fullPage();
        Check.refused("missing, 400", Form.MISSING, () -> x.f.flatten(15));
        Check.refused("group, 400", Form.ARGUMENT, () -> x.f.flatten(14));
        Check.refused("flat, 400", Form.STATE, () -> x.f.flatten(0));
        Check.refused("flat, 400", Form.STATE, () -> x.f.flatten(12));
        Check.refused("400 alone", Form.FULL, () -> x.f.flatten(13));
    }

    private static void readNamesFirst() {
        Form x = new Form();
        x.send("x".repeat(3000));
        Check.refused("byte, 3000", Form.ARGUMENT, () -> x.f.read(256));
        Check.refused("byte, 3000", Form.ARGUMENT, () -> x.f.read(-2));
        Check.refused("3000 alone", Form.FULL, () -> x.f.read(255));
        Check.due("-1 is no byte", -1, () -> x.f.read(-1));
    }

    private static void fieldFortyIsNeverThere() {
        Form x = new Form();
        for (int i = 0; i < 40; i++) {
            x.top(Form.NUMBER, i);
        }
        Form.dueMissing("field", 40, n -> n == -1 ? x.f.shown(n, 0) : x.f.field(n, Form.TEXT, 0));
        Form.dueMissing("value", 40, n -> x.f.value(n, -1));
        Form.dueMissing("option", 40, n -> x.f.option(n, 0));
        Form.dueMissing("set", 40, n -> x.f.set(n, 0, 0));
        Form.dueMissing("bounds", 40, n -> bound(x.f, n, 0, 0));
        Form.dueMissing("formula", 40, n -> x.f.formula(n, -1, 0, 0));
        Form.dueMissing("a", 40, n -> x.f.formula(0, 0, n, 0));
        Form.dueMissing("b", 40, n -> x.f.formula(0, 5, 0, n));
        Form.dueMissing("group", 40, n -> x.f.formula(0, 6, n, 0));
        Form.dueMissing("fails", 40, n -> x.f.fails(n, true));
        Form.dueMissing("shown", 40, n -> x.f.shown(n, 0));
        Form.dueMissing("size", 40, n -> x.f.size(n));
        Form.dueMissing("validate", 40, n -> x.f.validate(n));
        Form.dueMissing("appearance", 40, n -> x.f.appearance(n));
        Form.dueMissing("flatten", 40, n -> x.f.flatten(n));
        Form.dueMissing("lock", 40, n -> x.f.lock(n, true));
        Check.due("field 39 is there", 1, () -> x.f.value(39, '1'));
    }
}
