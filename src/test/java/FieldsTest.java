/** Promises 1 to 5 and 21: fields, their values, options, settings and locks. */
public final class FieldsTest {
    public static void main(String[] args) {
        aNewObjectIsEmpty();
        fieldsAreNumbered();
        fieldRefuses();
        fullNamesDecideTheKind();
        fortyFieldsAtMost();
        textsTakeSigns();
        numbersTakeSigns();
        boxesTakeFlags();
        choicesTakeOptions();
        radiosAreSeldomOff();
        valueRefusesInOrder();
        fieldsOfOneNameShare();
        optionsAreNumbered();
        settingsTellWhatTheyWere();
        settingsRefuse();
        cellsLeaveRoomForSigns();
        locksAreOfTheMaster();
        Check.end();
    }

    private static void aNewObjectIsEmpty() {
        FormFields f = new FormFields();
        Check.refused("shown of nothing", Form.MISSING, () -> f.shown(0, 0));
        Check.refused("shown of -1", Form.MISSING, () -> f.shown(-1, 0));
        Check.due("write of nothing", 0, () -> f.write());
        Check.due("calculate of nothing", 0, () -> f.calculate());
        Check.due("failed of nothing", 0, () -> f.failed(-1));
        Check.due("read of nothing", 0, () -> f.read(-1));
        Check.refused("mark of nothing", Form.INDEX, () -> f.mark(0, 0));
        Check.refused("page of nothing", Form.INDEX, () -> f.page(0, 0));
        Check.refused("at of nothing", Form.ARRAY_INDEX, () -> f.at(0));
        Check.due("the first field", 0, () -> f.field(-1, Form.TEXT, 0));
    }

    private static void fieldsAreNumbered() {
        FormFields f = new FormFields();
        Check.due("group", 0, () -> f.field(-1, Form.GROUP, 0));
        Check.due("text", 1, () -> f.field(0, Form.TEXT, 999));
        Check.due("group in group", 2, () -> f.field(0, Form.GROUP, 0));
        Check.due("number in it", 3, () -> f.field(2, Form.NUMBER, 1));
        Check.due("same full name again", 4, () -> f.field(2, Form.NUMBER, 1));
        Check.due("same group again", 5, () -> f.field(0, Form.GROUP, 0));
    }

    private static void fieldRefuses() {
        FormFields f = new FormFields();
        f.field(-1, Form.GROUP, 0);
        f.field(-1, Form.TEXT, 1);
        Check.refused("parent 2", Form.MISSING, () -> f.field(2, Form.TEXT, 1));
        Check.refused("parent -2", Form.MISSING, () -> f.field(-2, 9, 1000));
        Check.refused("parent least", Form.MISSING, () -> f.field(Integer.MIN_VALUE, 1, 1));
        Check.refused("kind -1", Form.ARGUMENT, () -> f.field(-1, -1, 1));
        Check.refused("kind 6", Form.ARGUMENT, () -> f.field(-1, 6, 1));
        Check.refused("name -1", Form.ARGUMENT, () -> f.field(-1, 1, -1));
        Check.refused("name 1000", Form.ARGUMENT, () -> f.field(-1, 1, 1000));
        Check.refused("a text as parent", Form.ARGUMENT, () -> f.field(1, 1, 1));
        Check.due("nothing came of these", 2, () -> f.field(0, 1, 1));
    }

    private static void fullNamesDecideTheKind() {
        FormFields f = new FormFields();
        f.field(-1, Form.GROUP, 7);
        f.field(0, Form.BOX, 1);
        f.field(-1, Form.GROUP, 7);
        Check.refused("another kind", Form.STATE, () -> f.field(0, Form.TEXT, 1));
        Check.refused("another kind by another group", Form.STATE, () -> f.field(2, Form.RADIO, 1));
        Check.refused("a group of a box's name", Form.STATE, () -> f.field(2, Form.GROUP, 1));
        Check.refused("a text of a group's name", Form.STATE, () -> f.field(-1, Form.TEXT, 7));
        Check.due("the same last name elsewhere", 3, () -> f.field(-1, Form.TEXT, 1));
        Check.due("and deeper", 4, () -> f.field(2, Form.GROUP, 7));
        Check.due("in that", 5, () -> f.field(4, Form.TEXT, 1));
    }

    private static void fortyFieldsAtMost() {
        FormFields f = new FormFields();
        f.field(-1, Form.GROUP, 0);
        for (int i = 1; i < 40; i++) {
            int parent = i - 1;
            int number = i;
            Check.due("chain", number, () -> f.field(parent, Form.GROUP, number));
        }
        Check.refused("41", Form.FULL, () -> f.field(-1, Form.TEXT, 999));
        Check.refused("41, missing first", Form.MISSING, () -> f.field(40, Form.TEXT, 999));
        Check.refused("41, argument first", Form.ARGUMENT, () -> f.field(0, Form.TEXT, 1000));
        Check.refused("41, state first", Form.STATE, () -> f.field(-1, Form.TEXT, 0));
    }

    private static void textsTakeSigns() {
        Form x = new Form();
        int t = x.top(Form.TEXT, 1);
        for (int i = 1; i <= 30; i++) {
            int n = i;
            Check.due("sign", n, () -> x.f.value(t, n % 2 == 0 ? 32 : 126));
        }
        Check.refused("sign 31", Form.FULL, () -> x.f.value(t, 65));
        Check.refused("31 of 31", Form.ARGUMENT, () -> x.f.value(t, 31));
        Check.refused("127", Form.ARGUMENT, () -> x.f.value(t, 127));
        Check.refused("-2", Form.ARGUMENT, () -> x.f.value(t, -2));
        x.dueShown("~ ".repeat(15), t);
        Check.due("gone", 0, () -> x.f.value(t, -1));
        x.dueShown("", t);
        Check.due("gone again", 0, () -> x.f.value(t, -1));
    }

    private static void numbersTakeSigns() {
        Form x = new Form();
        int n = x.top(Form.NUMBER, 1);
        for (int c : new int[] {44, 47, 58, 32, 65, -2, 0}) {
            Check.refused("number sign " + c, Form.ARGUMENT, () -> x.f.value(n, c));
        }
        String signs = "-.0123456789-.";
        for (int i = 0; i < 14; i++) {
            int at = i;
            Check.due("number sign", at + 1, () -> x.f.value(n, signs.charAt(at)));
        }
        Check.refused("sign 15", Form.FULL, () -> x.f.value(n, 48));
        Check.refused("sign 15, bad", Form.ARGUMENT, () -> x.f.value(n, 47));
        x.dueShown(signs, n);
    }

    private static void boxesTakeFlags() {
        Form x = new Form();
        int b = x.top(Form.BOX, 1);
        x.dueShown("", b);
        Check.due("on", 1, () -> x.f.value(b, 1));
        x.dueShown("X", b);
        Check.refused("2", Form.ARGUMENT, () -> x.f.value(b, 2));
        Check.refused("-1", Form.ARGUMENT, () -> x.f.value(b, -1));
        Check.due("off", 0, () -> x.f.value(b, 0));
        x.dueShown("", b);
    }

    private static void choicesTakeOptions() {
        Form x = new Form();
        int c = x.top(Form.CHOICE, 1);
        Check.refused("no option yet", Form.ARGUMENT, () -> x.f.value(c, 0));
        Check.due("none", -1, () -> x.f.value(c, -1));
        x.f.option(c, 305);
        x.f.option(c, 0);
        Check.refused("option 2", Form.ARGUMENT, () -> x.f.value(c, 2));
        Check.due("option 0", 0, () -> x.f.value(c, 0));
        x.dueShown("305", c);
        Check.due("option 1", 1, () -> x.f.value(c, 1));
        x.dueShown("0", c);
        Check.refused("-2", Form.ARGUMENT, () -> x.f.value(c, -2));
        Check.due("none", -1, () -> x.f.value(c, -1));
        x.dueShown("", c);
    }

    private static void radiosAreSeldomOff() {
        Form x = new Form();
        int r = x.top(Form.RADIO, 1);
        x.f.option(r, 99999);
        Check.due("none where none is", -1, () -> x.f.value(r, -1));
        Check.due("option", 0, () -> x.f.value(r, 0));
        Check.refused("not off", Form.ARGUMENT, () -> x.f.value(r, -1));
        x.dueShown("99999", r);
        Check.due("may be off", 0, () -> x.f.set(r, 2, 1));
        Check.due("off", -1, () -> x.f.value(r, -1));
        Check.due("may not be off", 1, () -> x.f.set(r, 2, 0));
        Check.due("none where none is", -1, () -> x.f.value(r, -1));
    }

    private static void valueRefusesInOrder() {
        Form x = new Form();
        int g = x.top(Form.GROUP, 1);
        int t = x.top(Form.TEXT, 2);
        Check.refused("missing", Form.MISSING, () -> x.f.value(2, 999));
        Check.refused("group", Form.ARGUMENT, () -> x.f.value(g, 65));
        Check.refused("group", Form.ARGUMENT, () -> x.f.value(g, -1));
        x.tell(t, "a".repeat(30));
        x.f.lock(t, true);
        Check.refused("locked and bad", Form.ARGUMENT, () -> x.f.value(t, 31));
        Check.refused("locked and full", Form.STATE, () -> x.f.value(t, 65));
        Check.refused("locked", Form.STATE, () -> x.f.value(t, -1));
        x.f.lock(t, false);
        Check.refused("full", Form.FULL, () -> x.f.value(t, 65));
        x.f.flatten(t);
        Check.refused("flat and full", Form.STATE, () -> x.f.value(t, 65));
        x.dueShown("a".repeat(30), t);
    }

    private static void fieldsOfOneNameShare() {
        Form x = new Form();
        int g = x.top(Form.GROUP, 1);
        int c = x.f.field(g, Form.CHOICE, 2);
        int h = x.top(Form.GROUP, 1);
        int d = x.f.field(h, Form.CHOICE, 2);
        int other = x.top(Form.CHOICE, 2);
        Check.due("option by the second", 0, () -> x.f.option(d, 12));
        Check.refused("it is there", Form.ARGUMENT, () -> x.f.option(c, 12));
        Check.due("of another name", 0, () -> x.f.option(other, 12));
        x.f.value(c, 0);
        x.dueShown("12", d);
        x.dueShown("", other);
        Check.due("required", 0, () -> x.f.set(c, 0, 1));
        Check.due("required for all", 1, () -> x.f.set(d, 0, 1));
        Check.due("not for another", 0, () -> x.f.set(other, 0, 1));
        Check.due("width", 800, () -> x.f.set(c, 5, 10));
        Check.due("width of its own", 800, () -> x.f.set(d, 5, 20));
        Check.due("width", 10, () -> x.f.set(c, 5, 10));
        Check.due("height", 160, () -> x.f.set(d, 6, 10));
        Check.due("height of its own", 160, () -> x.f.set(c, 6, 10));
        Check.due("side", 0, () -> x.f.set(d, 7, 2));
        Check.due("side of its own", 0, () -> x.f.set(c, 7, 2));
    }

    private static void optionsAreNumbered() {
        Form x = new Form();
        int r = x.top(Form.RADIO, 1);
        int g = x.top(Form.GROUP, 2);
        Check.refused("missing", Form.MISSING, () -> x.f.option(9, -1));
        Check.refused("group", Form.ARGUMENT, () -> x.f.option(g, 1));
        for (int kind : new int[] {Form.TEXT, Form.BOX, Form.NUMBER}) {
            int other = x.top(kind, 10 + kind);
            Check.refused("kind " + kind, Form.ARGUMENT, () -> x.f.option(other, 1));
        }
        Check.refused("code -1", Form.ARGUMENT, () -> x.f.option(r, -1));
        Check.refused("code 100000", Form.ARGUMENT, () -> x.f.option(r, 100000));
        for (int i = 0; i < 12; i++) {
            int n = i;
            Check.due("option", n, () -> x.f.option(r, n == 11 ? 99999 : n));
            Check.refused("twice", Form.ARGUMENT, () -> x.f.option(r, n == 11 ? 99999 : n));
        }
        Check.refused("13", Form.FULL, () -> x.f.option(r, 500));
        Check.refused("13, there", Form.ARGUMENT, () -> x.f.option(r, 5));
        Check.refused("13, no option of it", Form.ARGUMENT, () -> x.f.value(r, 12));
    }

    private static void settingsTellWhatTheyWere() {
        Form x = new Form();
        int[] first = {0, 0, 0, 3, 0, 800, 160, 0};
        int[] kinds = {Form.BOX, Form.TEXT, Form.RADIO, Form.NUMBER, Form.NUMBER, Form.CHOICE, Form.TEXT, Form.BOX};
        int[] most = {1, 30, 1, 3, 1, 100000, 100000, 2};
        for (int what = 0; what < 8; what++) {
            int w = what;
            int field = x.top(kinds[w], w);
            Check.due("at first " + w, first[w], () -> x.f.set(field, w, most[w]));
            Check.due("the most " + w, most[w], () -> x.f.set(field, w, 0));
            Check.refused("above " + w, Form.ARGUMENT, () -> x.f.set(field, w, most[w] + 1));
            Check.refused("below " + w, Form.ARGUMENT, () -> x.f.set(field, w, -1));
            Check.due("nothing came of it " + w, 0, () -> x.f.set(field, w, 0));
        }
    }

    private static void settingsRefuse() {
        Form x = new Form();
        int g = x.top(Form.GROUP, 0);
        for (int kind = Form.TEXT; kind <= Form.NUMBER; kind++) {
            int k = kind;
            int field = x.top(k, k);
            Check.refused("setting -1", Form.ARGUMENT, () -> x.f.set(field, -1, 0));
            Check.refused("setting 8", Form.ARGUMENT, () -> x.f.set(field, 8, 0));
            for (int what = 1; what <= 4; what++) {
                int w = what;
                int owner = w == 1 ? Form.TEXT : w == 2 ? Form.RADIO : Form.NUMBER;
                if (k != owner) {
                    Check.refused("setting " + w + " of " + k, Form.ARGUMENT, () -> x.f.set(field, w, 0));
                }
            }
        }
        for (int what = 0; what < 8; what++) {
            int w = what;
            Check.refused("setting of a group", Form.ARGUMENT, () -> x.f.set(g, w, 0));
        }
        Check.refused("missing", Form.MISSING, () -> x.f.set(6, 9, 9));
    }

    private static void cellsLeaveRoomForSigns() {
        Form x = new Form();
        int t = x.top(Form.TEXT, 1);
        x.tell(t, "abc");
        Check.refused("2 cells", Form.ARGUMENT, () -> x.f.set(t, 1, 2));
        Check.due("3 cells", 0, () -> x.f.set(t, 1, 3));
        Check.refused("a fourth sign", Form.FULL, () -> x.f.value(t, 65));
        Check.due("no cells", 3, () -> x.f.set(t, 1, 0));
        Check.due("a fourth sign", 4, () -> x.f.value(t, 65));
        Check.refused("31 cells", Form.ARGUMENT, () -> x.f.set(t, 1, 31));
        Check.due("30 cells", 0, () -> x.f.set(t, 1, 30));
    }

    private static void locksAreOfTheMaster() {
        Form x = new Form();
        int g = x.top(Form.GROUP, 1);
        int b = x.top(Form.BOX, 2);
        int same = x.top(Form.BOX, 2);
        Check.refused("missing", Form.MISSING, () -> x.f.lock(3, true));
        Check.refused("group", Form.ARGUMENT, () -> x.f.lock(g, true));
        Check.due("lock", 0, () -> x.f.lock(same, true));
        Check.due("lock again", 1, () -> x.f.lock(b, true));
        Check.refused("locked", Form.STATE, () -> x.f.value(b, 1));
        Check.due("settings are free", 0, () -> x.f.set(b, 0, 1));
        Check.due("unlock", 1, () -> x.f.lock(b, false));
        Check.due("unlock again", 0, () -> x.f.lock(same, false));
        Check.due("free", 1, () -> x.f.value(same, 1));
    }
}
