/** The edges that the document names of fields: what it says under FIELDS, and promises 1 and 2. */
public final class FieldEdgesTest {
    public static void main(String[] args) {
        Sentence.holds("Promise 1", "`FormFields()`: No fields.", FieldEdgesTest::aNewObjectHasNoFields);
        Sentence.holds("Promise 1", "`FormFields()`: No fields.", FieldEdgesTest::objectsShareNothing);

        Sentence.holds("Terms", "FIELDS 0, 1, .. (40 at most)", FieldEdgesTest::fieldsAreZeroToThirtyNine);
        Sentence.holds("Terms", "a KIND: 0 GROUP, 1 TEXT, 2 BOX, 3 RADIO, 4 CHOICE, 5 NUMBER", FieldEdgesTest::kindsTakeWhatIsTheirs);
        Sentence.holds("Terms", "a PARENT, a GROUP or none (-1)", FieldEdgesTest::aParentIsAGroupOrNone);
        Sentence.holds("Terms", "a NAME 0 .. 999", FieldEdgesTest::theLeastAndTheGreatestName);
        Sentence.holds("Terms", "The FULL NAME is the row of names from above down to the field.", FieldEdgesTest::fullNamesAreRowsNotDigits);
        Sentence.holds("Terms", "The FULL NAME is the row of names from above down to the field.", FieldEdgesTest::theLongestFullName);
        Sentence.holds("Terms", "Fields of one FULL NAME are of one KIND", FieldEdgesTest::oneNameOneKind);
        Sentence.holds("Terms", "the first of them (no GROUP) is the MASTER of all", FieldEdgesTest::theFirstIsTheMaster);
        Sentence.holds("Terms", "the first of them (no GROUP) is the MASTER of all", FieldEdgesTest::theMasterMayStandInAnotherGroup);
        Sentence.holds("Terms", "the first of them (no GROUP) is the MASTER of all", FieldEdgesTest::groupsAreNoMasters);

        Sentence.holds("Promise 2", "A field: its number.", FieldEdgesTest::fieldTellsItsNumber);
        Sentence.holds("Promise 2", "NoSuchElementException (parent, if it is not -1)", FieldEdgesTest::theParentIsMissing);
        Sentence.holds("Promise 2", "IllegalArgumentException when kind is not 0 .. 5", FieldEdgesTest::noSuchKind);
        Sentence.holds("Promise 2", "IllegalArgumentException when kind is not 0 .. 5, name not 0 .. 999", FieldEdgesTest::noSuchName);
        Sentence.holds("Promise 2", "or the parent no GROUP", FieldEdgesTest::theParentIsNoGroup);
        Sentence.holds("Promise 2", "IllegalStateException when one of this FULL NAME is of another KIND", FieldEdgesTest::everyPairOfKindsClashes);
        Sentence.holds("Promise 2", "IllegalStateException when one of this FULL NAME is of another KIND", FieldEdgesTest::namesClashThroughGroupsOfOneName);
        Sentence.holds("Promise 2", "UnsupportedOperationException when there are 40", FieldEdgesTest::theFortyFirstIsRefused);
        Sentence.holds("Promise 2", "UnsupportedOperationException when there are 40", FieldEdgesTest::refusedFieldsDoNotCount);
        Check.end();
    }

    private static void aNewObjectHasNoFields() {
        FormFields f = new FormFields();
        Form.dueMissing("field", 0, n -> n == -1 ? f.shown(-1, 0) : f.field(n, Form.TEXT, 0));
        Form.dueMissing("value", 0, n -> f.value(n, -1));
        Form.dueMissing("option", 0, n -> f.option(n, 0));
        Form.dueMissing("set", 0, n -> f.set(n, 0, 0));
        Form.dueMissing("formula", 0, n -> f.formula(n, -1, 0, 0));
        Form.dueMissing("fails", 0, n -> f.fails(n, false));
        Form.dueMissing("shown", 0, n -> f.shown(n, 0));
        Form.dueMissing("size", 0, n -> f.size(n));
        Form.dueMissing("validate", 0, n -> f.validate(n));
        Form.dueMissing("appearance", 0, n -> f.appearance(n));
        Form.dueMissing("flatten", 0, n -> f.flatten(n));
        Form.dueMissing("lock", 0, n -> f.lock(n, false));
        Check.due("calculate", 0, () -> f.calculate());
        Check.due("failed", 0, () -> f.failed(-1));
        Check.due("write", 0, () -> f.write());
        Check.refused("at", Form.ARRAY_INDEX, () -> f.at(0));
        Check.refused("mark", Form.INDEX, () -> f.mark(0, 0));
        Check.refused("page", Form.INDEX, () -> f.page(0, 0));
        Check.due("read", 0, () -> f.read(-1));
    }

    private static void objectsShareNothing() {
        Form x = new Form();
        int n = x.top(Form.NUMBER, 1);
        x.tell(n, "7");
        x.f.appearance(n);
        x.f.flatten(n);
        x.f.write();
        x.f.read('1');
        FormFields other = new FormFields();
        Check.refused("field", Form.MISSING, () -> other.shown(0, 0));
        Check.refused("mark", Form.INDEX, () -> other.mark(0, 0));
        Check.refused("page", Form.INDEX, () -> other.page(0, 0));
        Check.refused("at", Form.ARRAY_INDEX, () -> other.at(0));
        Check.due("the first byte", 1, () -> other.read('1'));
        Check.due("the first field", 0, () -> other.field(-1, Form.NUMBER, 1));
        Check.due("without signs", -1, () -> other.shown(0, 0));
    }

    private static void fieldsAreZeroToThirtyNine() {
        Form x = new Form();
        for (int i = 0; i < 40; i++) {
            int number = i;
            Check.refused("not yet", Form.MISSING, () -> x.f.shown(number, 0));
            Check.due("field", number, () -> x.top(Form.BOX, number));
            Check.due("now", 1, () -> x.f.value(number, 1));
        }
        for (int i = 0; i < 40; i++) {
            int number = i;
            Check.due("each has its own value", 'X', () -> x.f.shown(number, 0));
        }
        Check.refused("no field 40", Form.MISSING, () -> x.f.shown(40, 0));
        Check.refused("one more", Form.FULL, () -> x.top(Form.BOX, 40));
        Check.refused("still no field 40", Form.MISSING, () -> x.f.shown(40, 0));
    }

    private static void kindsTakeWhatIsTheirs() {
        Form x = Form.everyKind();
        Check.due("in a group", 6, () -> x.f.field(0, Form.TEXT, 1));
        Check.refused("a group has no value", Form.ARGUMENT, () -> x.f.value(0, -1));
        Check.due("a letter in a text", 1, () -> x.f.value(1, 'a'));
        Check.refused("no letter in a box", Form.ARGUMENT, () -> x.f.value(2, 'a'));
        Check.due("a box on", 1, () -> x.f.value(2, 1));
        Check.due("an option of a radio", 0, () -> x.f.option(3, 5));
        x.f.value(3, 0);
        Check.refused("a radio stays on", Form.ARGUMENT, () -> x.f.value(3, -1));
        Check.due("an option of a choice", 0, () -> x.f.option(4, 5));
        x.f.value(4, 0);
        Check.due("a choice need not", -1, () -> x.f.value(4, -1));
        Check.refused("no letter in a number", Form.ARGUMENT, () -> x.f.value(5, 'a'));
        Check.due("a digit in a number", 1, () -> x.f.value(5, '7'));
    }

    private static void aParentIsAGroupOrNone() {
        Form x = Form.everyKind();
        Check.due("none", 6, () -> x.f.field(-1, Form.BOX, 7));
        Check.due("a group", 7, () -> x.f.field(0, Form.BOX, 7));
        for (int kind = Form.TEXT; kind <= Form.NUMBER; kind++) {
            int parent = kind;
            Check.refused("a parent of kind " + parent, Form.ARGUMENT, () -> x.f.field(parent, Form.BOX, 7));
        }
        x.dueData("1=\n2=0\n3=\n4=\n5=\n7=0\n0.7=0\n");
    }

    private static void theLeastAndTheGreatestName() {
        Form x = new Form();
        Check.due("name 0", 0, () -> x.top(Form.BOX, 0));
        Check.due("name 999", 1, () -> x.top(Form.BOX, 999));
        Check.refused("name -1", Form.ARGUMENT, () -> x.top(Form.BOX, -1));
        Check.refused("name 1000", Form.ARGUMENT, () -> x.top(Form.BOX, 1000));
        x.dueData("0=0\n999=0\n");
    }

    private static void fullNamesAreRowsNotDigits() {
        Form x = new Form();
        int one = x.top(Form.GROUP, 1);
        int twelve = x.top(Form.GROUP, 12);
        int text = x.f.field(one, Form.TEXT, 23);
        Check.due("12.3 is not 1.23", 3, () -> x.f.field(twelve, Form.BOX, 3));
        int inner = x.f.field(one, Form.GROUP, 2);
        Check.due("1.2.3 is neither", 5, () -> x.f.field(inner, Form.NUMBER, 3));
        Check.due("23 alone is not 1.23", 6, () -> x.top(Form.CHOICE, 23));
        Check.due("1.1 is not 1", 7, () -> x.f.field(one, Form.BOX, 1));
        Check.refused("1 is a group", Form.STATE, () -> x.top(Form.BOX, 1));
        x.tell(text, "t");
        x.dueData("1.23=t\n12.3=0\n1.2.3=\n23=\n1.1=0\n");
    }

    private static void theLongestFullName() {
        Form x = new Form();
        int parent = -1;
        for (int i = 0; i < 39; i++) {
            parent = x.f.field(parent, Form.GROUP, 7);
        }
        int last = x.f.field(parent, Form.BOX, 7);
        Check.due("in all", 39, () -> last);
        x.dueData("7.".repeat(39) + "7=0\n");
        x.dueRead(1, "7.".repeat(39) + "7=1\n");
        Check.due("it was told", 'X', () -> x.f.shown(last, 0));
        x.f.value(last, 0);
        x.dueRead(-1, "7.".repeat(38) + "7=1\n");
        x.dueRead(-1, "7.".repeat(40) + "7=1\n");
        x.dueRead(-1, "7.".repeat(40) + "=1\n");
        x.dueRead(-1, ".7".repeat(40) + "=1\n");
        Check.due("no other line told it", -1, () -> x.f.shown(last, 0));
    }

    private static void oneNameOneKind() {
        Form x = new Form();
        x.top(Form.RADIO, 5);
        Check.refused("not a choice, too", Form.STATE, () -> x.top(Form.CHOICE, 5));
        Check.due("a radio, too", 1, () -> x.top(Form.RADIO, 5));
        x.dueData("5=\n");
    }

    private static void theFirstIsTheMaster() {
        Form x = new Form();
        x.top(Form.BOX, 9);
        int first = x.top(Form.NUMBER, 5);
        int second = x.top(Form.NUMBER, 5);
        int third = x.top(Form.NUMBER, 5);
        x.tell(third, "8");
        x.dueShown("8.000", first);
        x.dueShown("8.000", second);
        x.f.formula(third, 0, first, first);
        Check.due("the ring is told by the first", -1 - first, () -> x.f.calculate());
        x.f.formula(second, 7, 0, 0);
        x.f.fails(third, true);
        x.f.calculate();
        Check.due("the failure is told by the first", first, () -> x.f.failed(0));
        Check.due("and once", 1, () -> x.f.failed(-1));
        x.dueData("9=0\n5=8\n");
    }

    private static void theMasterMayStandInAnotherGroup() {
        Form x = new Form();
        int g = x.top(Form.GROUP, 1);
        int h = x.top(Form.GROUP, 1);
        int inH = x.f.field(h, Form.TEXT, 2);
        int inG = x.f.field(g, Form.TEXT, 2);
        x.tell(inG, "ab");
        x.dueShown("ab", inH);
        x.dueData("1.2=ab\n");
        Check.due("a lock by the one", 0, () -> x.f.lock(inG, true));
        Check.refused("is a lock of the other", Form.STATE, () -> x.f.value(inH, 'c'));
    }

    private static void groupsAreNoMasters() {
        Form x = new Form();
        int g = x.top(Form.GROUP, 1);
        x.dueData("");
        int h = x.top(Form.GROUP, 1);
        x.f.field(h, Form.BOX, 0);
        x.dueData("1.0=0\n");
        x.dueRead(-1, "1=\n");
        Check.refused("no rule", Form.ARGUMENT, () -> x.f.validate(g));
        Check.refused("of none of them", Form.ARGUMENT, () -> x.f.validate(h));
    }

    private static void fieldTellsItsNumber() {
        Form x = new Form();
        Check.due("first", 0, () -> x.top(Form.GROUP, 3));
        Check.due("second", 1, () -> x.f.field(0, Form.TEXT, 3));
        Check.due("of a name that is there", 2, () -> x.f.field(0, Form.TEXT, 3));
        Check.due("a group again", 3, () -> x.top(Form.GROUP, 3));
    }

    private static void theParentIsMissing() {
        Form x = new Form();
        x.top(Form.GROUP, 1);
        x.top(Form.GROUP, 2);
        for (int parent : new int[] {-2, 2, 39, 40, Integer.MIN_VALUE, Integer.MAX_VALUE}) {
            Check.refused("parent " + parent, Form.MISSING, () -> x.f.field(parent, Form.BOX, 1));
        }
        Check.due("the last one that is there", 2, () -> x.f.field(1, Form.BOX, 1));
        Check.due("none", 3, () -> x.f.field(-1, Form.BOX, 3));
    }

    private static void noSuchKind() {
        Form x = new Form();
        for (int kind : new int[] {-1, 6, Integer.MIN_VALUE, Integer.MAX_VALUE}) {
            Check.refused("kind " + kind, Form.ARGUMENT, () -> x.top(kind, 1));
        }
        Check.due("kind 0", 0, () -> x.top(0, 0));
        Check.due("kind 5", 1, () -> x.top(5, 5));
    }

    private static void noSuchName() {
        Form x = new Form();
        int g = x.top(Form.GROUP, 1);
        for (int name : new int[] {-1, 1000, Integer.MIN_VALUE, Integer.MAX_VALUE}) {
            Check.refused("name " + name, Form.ARGUMENT, () -> x.top(Form.TEXT, name));
            Check.refused("name in a group " + name, Form.ARGUMENT, () -> x.f.field(g, Form.TEXT, name));
        }
        Check.due("name 0", 1, () -> x.f.field(g, Form.TEXT, 0));
        Check.due("name 999", 2, () -> x.f.field(g, Form.TEXT, 999));
    }

    private static void theParentIsNoGroup() {
        for (int kind = Form.TEXT; kind <= Form.NUMBER; kind++) {
            Form x = new Form();
            int parent = x.top(kind, 1);
            Check.refused("in kind " + kind, Form.ARGUMENT, () -> x.f.field(parent, Form.TEXT, 2));
            Check.refused("a group in kind " + kind, Form.ARGUMENT, () -> x.f.field(parent, Form.GROUP, 2));
        }
    }

    private static void everyPairOfKindsClashes() {
        for (int there = Form.GROUP; there <= Form.NUMBER; there++) {
            for (int kind = Form.GROUP; kind <= Form.NUMBER; kind++) {
                Form x = new Form();
                x.top(there, 4);
                int k = kind;
                if (k == there) {
                    Check.due("kind " + k + " again", 1, () -> x.top(k, 4));
                } else {
                    Check.refused("kind " + k + " where " + there + " is", Form.STATE, () -> x.top(k, 4));
                }
            }
        }
    }

    private static void namesClashThroughGroupsOfOneName() {
        Form x = new Form();
        int g = x.top(Form.GROUP, 1);
        int inner = x.f.field(g, Form.GROUP, 2);
        x.f.field(inner, Form.TEXT, 3);
        int again = x.top(Form.GROUP, 1);
        int innerAgain = x.f.field(again, Form.GROUP, 2);
        Check.refused("1.2.3 is a text", Form.STATE, () -> x.f.field(innerAgain, Form.BOX, 3));
        Check.refused("1.2 is a group", Form.STATE, () -> x.f.field(again, Form.BOX, 2));
        Check.due("1.3 is free", 5, () -> x.f.field(again, Form.BOX, 3));
        Check.refused("and is not now", Form.STATE, () -> x.f.field(g, Form.TEXT, 3));
    }

    private static void theFortyFirstIsRefused() {
        Form x = new Form();
        int g = x.top(Form.GROUP, 0);
        for (int i = 1; i < 40; i++) {
            int name = i;
            Check.due("field", name, () -> x.f.field(g, Form.BOX, name));
        }
        Check.refused("a new name", Form.FULL, () -> x.f.field(g, Form.BOX, 40));
        Check.refused("a name that is there", Form.FULL, () -> x.f.field(g, Form.BOX, 1));
        Check.refused("a group", Form.FULL, () -> x.top(Form.GROUP, 0));
    }

    private static void refusedFieldsDoNotCount() {
        Form x = new Form();
        x.top(Form.BOX, 0);
        for (int i = 0; i < 50; i++) {
            Check.refused("another kind", Form.STATE, () -> x.top(Form.TEXT, 0));
            Check.refused("no name", Form.ARGUMENT, () -> x.top(Form.TEXT, 1000));
            Check.refused("no parent", Form.MISSING, () -> x.f.field(1, Form.TEXT, 0));
        }
        for (int i = 1; i < 40; i++) {
            int number = i;
            Check.due("there is room", number, () -> x.top(Form.BOX, 0));
        }
    }
}
