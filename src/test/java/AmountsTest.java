/** Promises 6 to 11 and 13: bounds, formulas, what is shown of numbers, and rules. */
public final class AmountsTest {
    public static void main(String[] args) {
        boundsRefuse();
        boundsAreKept();
        amountsAreReadFromSigns();
        rulesComeInOrder();
        decimalsRoundAwayFromZero();
        commasPartTheWhole();
        formulaRefuses();
        formulasOfTwo();
        formulasOfBoxes();
        everyOpNeedsItsFields();
        productsAndQuotientsAtTheEdge();
        groupSums();
        constantsAreWritten();
        theOrderIsByNeed();
        failuresAreTold();
        failingIsTold();
        rings();
        fortyFormulas();
        formulasWriteWhatIsLocked();
        Check.end();
    }

    private static final long MOST = 999999999999L;

    private static long bound(FormFields f, int field, long least, long most) {
        f.bounds(field, least, most);
        return 0;
    }

    private static void boundsRefuse() {
        Form x = new Form();
        int n = x.top(Form.NUMBER, 1);
        int t = x.top(Form.TEXT, 2);
        int g = x.top(Form.GROUP, 3);
        Check.refused("missing", Form.MISSING, () -> bound(x.f, 3, 5, 4));
        Check.refused("text", Form.ARGUMENT, () -> bound(x.f, t, 0, 1));
        Check.refused("group", Form.ARGUMENT, () -> bound(x.f, g, 0, 1));
        Check.refused("wrong way", Form.ARGUMENT, () -> bound(x.f, n, 1, 0));
        Check.refused("too low", Form.ARGUMENT, () -> bound(x.f, n, -MOST - 1, 0));
        Check.refused("too high", Form.ARGUMENT, () -> bound(x.f, n, 0, MOST + 1));
        Check.refused("least of all", Form.ARGUMENT, () -> bound(x.f, n, Long.MIN_VALUE, 0));
        Check.refused("most of all", Form.ARGUMENT, () -> bound(x.f, n, 0, Long.MAX_VALUE));
        x.tell(n, "-999999999.999");
        Check.due("no bound came", 1, () -> x.f.validate(n));
        Check.due("the widest", 0, () -> bound(x.f, n, -MOST, MOST));
        Check.due("at the least", 1, () -> x.f.validate(n));
    }

    private static void boundsAreKept() {
        Form x = new Form();
        int n = x.top(Form.NUMBER, 1);
        int same = x.top(Form.NUMBER, 1);
        x.f.bounds(same, -1500, -1500);
        x.tell(n, "-1.5");
        Check.due("just it", 1, () -> x.f.validate(n));
        x.tell(n, "-1.501");
        Check.due("below", 4, () -> x.f.validate(same));
        x.tell(n, "-1.499");
        Check.due("above", 5, () -> x.f.validate(n));
        x.f.value(n, -1);
        Check.due("not asked without signs", 1, () -> x.f.validate(n));
    }

    private static void amountsAreReadFromSigns() {
        Form x = new Form();
        int n = x.top(Form.NUMBER, 1);
        for (String good : new String[] {"0", "-0", "007", "999999999", "1.0", "0.001", "-999999999.999", "-0.5"}) {
            x.tell(n, good);
            Check.due("amount of " + good, 1, () -> x.f.validate(n));
        }
        String[] bad = {"-", ".", "1.", ".5", "-.5", "--1", "1-", "1.2345", "1234567890", "1.2.3", "1.-1", "-1-", "0000000000", "1..2"};
        for (String signs : bad) {
            x.tell(n, signs);
            Check.due("amount of " + signs, 3, () -> x.f.validate(n));
            x.dueShown(signs, n);
        }
    }

    private static void rulesComeInOrder() {
        Form x = new Form();
        int g = x.top(Form.GROUP, 0);
        Check.refused("missing", Form.MISSING, () -> x.f.validate(1));
        Check.refused("group", Form.ARGUMENT, () -> x.f.validate(g));
        for (int kind = Form.TEXT; kind <= Form.NUMBER; kind++) {
            int field = x.top(kind, kind);
            Check.due("nothing asked", 1, () -> x.f.validate(field));
            x.f.set(field, 0, 1);
            Check.due("required", 2, () -> x.f.validate(field));
        }
        x.tell(1, " ");
        x.f.value(2, 1);
        x.f.option(3, 0);
        x.f.value(3, 0);
        x.f.option(4, 0);
        x.f.value(4, 0);
        x.tell(5, "0");
        for (int kind = Form.TEXT; kind <= Form.NUMBER; kind++) {
            int field = kind;
            Check.due("there", 1, () -> x.f.validate(field));
        }
        x.f.bounds(5, 1, 2);
        Check.due("below", 4, () -> x.f.validate(5));
        x.f.value(5, -1);
        Check.due("required before bounds", 2, () -> x.f.validate(5));
        x.tell(5, "-");
        Check.due("no amount before bounds", 3, () -> x.f.validate(5));
    }

    private static void dueDecimals(Form x, int n, String signs, String... want) {
        x.tell(n, signs);
        for (int d = 0; d <= 3; d++) {
            x.f.set(n, 3, d);
            x.dueShown(want[d], n);
        }
    }

    private static void decimalsRoundAwayFromZero() {
        Form x = new Form();
        int n = x.top(Form.NUMBER, 1);
        x.dueShown("", n);
        dueDecimals(x, n, "1.5", "2", "1.5", "1.50", "1.500");
        dueDecimals(x, n, "-1.5", "-2", "-1.5", "-1.50", "-1.500");
        dueDecimals(x, n, "-0.449", "0", "-0.4", "-0.45", "-0.449");
        dueDecimals(x, n, "0.445", "0", "0.4", "0.45", "0.445");
        dueDecimals(x, n, "-0.004", "0", "0.0", "0.00", "-0.004");
        dueDecimals(x, n, "-0.001", "0", "0.0", "0.00", "-0.001");
        dueDecimals(x, n, "-0.5", "-1", "-0.5", "-0.50", "-0.500");
        dueDecimals(x, n, "0.499", "0", "0.5", "0.50", "0.499");
        dueDecimals(x, n, "1.949", "2", "1.9", "1.95", "1.949");
        dueDecimals(x, n, "-1.994", "-2", "-2.0", "-1.99", "-1.994");
        dueDecimals(x, n, "-0", "0", "0.0", "0.00", "0.000");
        dueDecimals(x, n, "007.05", "7", "7.1", "7.05", "7.050");
        dueDecimals(x, n, "999999999.999", "1000000000", "1000000000.0", "1000000000.00", "999999999.999");
        dueDecimals(x, n, "12.", "12.", "12.", "12.", "12.");
        Check.refused("missing", Form.MISSING, () -> x.f.shown(1, 0));
        Check.due("before the first", -1, () -> x.f.shown(n, -1));
        Check.due("far", -1, () -> x.f.shown(n, Integer.MAX_VALUE));
    }

    private static void commasPartTheWhole() {
        Form x = new Form();
        int n = x.top(Form.NUMBER, 1);
        x.f.set(n, 4, 1);
        dueDecimals(x, n, "100", "100", "100.0", "100.00", "100.000");
        dueDecimals(x, n, "-1000", "-1,000", "-1,000.0", "-1,000.00", "-1,000.000");
        dueDecimals(x, n, "123456", "123,456", "123,456.0", "123,456.00", "123,456.000");
        dueDecimals(x, n, "999.95", "1,000", "1,000.0", "999.95", "999.950");
        dueDecimals(x, n, "-999999999.999", "-1,000,000,000", "-1,000,000,000.0", "-1,000,000,000.00", "-999,999,999.999");
        dueDecimals(x, n, "1234567890", "1234567890", "1234567890", "1234567890", "1234567890");
    }

    private static void formulaRefuses() {
        Form x = new Form();
        int g = x.top(Form.GROUP, 0);
        int t = x.top(Form.TEXT, 1);
        int b = x.top(Form.BOX, 2);
        int n = x.top(Form.NUMBER, 3);
        Check.refused("missing field", Form.MISSING, () -> x.f.formula(4, 9, 0, 0));
        for (int op = 0; op <= 5; op++) {
            int o = op;
            Check.refused("missing a", Form.MISSING, () -> x.f.formula(n, o, -1, t));
            Check.refused("missing b", Form.MISSING, () -> x.f.formula(t, o, t, 4));
            Check.refused("a text", Form.ARGUMENT, () -> x.f.formula(n, o, t, n));
            Check.refused("b group", Form.ARGUMENT, () -> x.f.formula(n, o, b, g));
            Check.refused("of a box", Form.ARGUMENT, () -> x.f.formula(b, o, b, n));
        }
        Check.refused("missing group", Form.MISSING, () -> x.f.formula(t, 6, 4, 0));
        Check.refused("no group", Form.ARGUMENT, () -> x.f.formula(n, 6, n, 0));
        Check.refused("op 8", Form.ARGUMENT, () -> x.f.formula(n, 8, 99, 99));
        Check.refused("op -2", Form.ARGUMENT, () -> x.f.formula(n, -2, 99, 99));
        Check.refused("none of a text", Form.ARGUMENT, () -> x.f.formula(t, -1, 0, 0));
        Check.refused("constant of a group", Form.ARGUMENT, () -> x.f.formula(g, 7, 0, 0));
        Check.due("no formula came", 0, () -> x.f.formula(n, -1, 99, 99));
        Check.due("b of op 6 is free", 0, () -> x.f.formula(n, 6, g, 99));
        Check.due("a and b of op 7", 1, () -> x.f.formula(n, 7, 99, 99));
        Check.due("op 0", 1, () -> x.f.formula(n, 0, b, n));
        Check.due("none", 1, () -> x.f.formula(n, -1, 0, 0));
    }

    private static Form two(String a, String b) {
        Form x = new Form();
        x.top(Form.NUMBER, 1);
        x.top(Form.NUMBER, 2);
        x.top(Form.NUMBER, 3);
        x.tell(0, a);
        x.tell(1, b);
        return x;
    }

    private static String worked(int op, String a, String b) {
        Form x = two(a, b);
        x.f.formula(2, op, 0, 1);
        int changed = x.f.calculate();
        if (changed != 1 - x.f.failed(-1)) {
            return "changed " + changed;
        }
        String data = x.data();
        String line = data.substring(data.indexOf("3=") + 2, data.length() - 1);
        return x.f.failed(-1) == 1 ? "fails" + line : line;
    }

    private static void dueWorked(String want, int op, String a, String b) {
        Check.same(a + " op " + op + " " + b, want, worked(op, a, b));
    }

    private static void formulasOfTwo() {
        dueWorked("1.75", 0, "2", "-0.25");
        dueWorked("0", 0, "", "");
        dueWorked("-0.005", 1, "", "0.005");
        dueWorked("10", 1, "9.5", "-0.5");
        dueWorked("0.001", 2, "0.5", "0.003");
        dueWorked("0", 2, "0.5", "-0.001");
        dueWorked("-0.001", 2, "0.999", "-0.002");
        dueWorked("0.333", 3, "1", "3");
        dueWorked("-0.666", 3, "2", "-3");
        dueWorked("-3", 4, "-3", "2");
        dueWorked("2", 5, "-3", "2");
        dueWorked("fails", 3, "1", "0");
        dueWorked("fails", 3, "1", "");
        dueWorked("fails", 0, "1.", "2");
        dueWorked("fails", 5, "1", "-");
    }

    private static void formulasOfBoxes() {
        Form x = new Form();
        int off = x.top(Form.BOX, 1);
        int on = x.top(Form.BOX, 2);
        int n = x.top(Form.NUMBER, 3);
        x.f.value(on, 1);
        String[] want = {"1", "-1", "0", "0", "0", "1"};
        for (int op = 0; op <= 5; op++) {
            x.f.formula(n, op, off, on);
            x.f.calculate();
            x.dueData("1=0\n2=1\n3=" + want[op] + "\n");
        }
        x.f.formula(n, 3, on, off);
        Check.due("by an empty box", 0, () -> x.f.calculate());
        Check.due("it failed", n, () -> x.f.failed(0));
    }

    private static void everyOpNeedsItsFields() {
        for (int op = 0; op <= 5; op++) {
            for (int side = 0; side <= 1; side++) {
                Form x = two("5", "5");
                x.f.formula(2, 7, 3000, 0);
                x.f.formula(0, op, side == 0 ? 2 : 1, side == 0 ? 1 : 2);
                Check.due("both", 2 - (op == 5 ? 1 : 0), () -> x.f.calculate());
                x.f.formula(2, op, 1, 0);
                Check.due("a ring with the first", -1, () -> x.f.calculate());
            }
        }
    }

    private static void productsAndQuotientsAtTheEdge() {
        dueWorked("0", 2, "999999999.999", "0");
        dueWorked("999999.999", 2, "999999999.999", "0.001");
        dueWorked("999999999.999", 0, "999999999.998", "0.001");
        dueWorked("fails", 0, "999999999.999", "0.001");
        dueWorked("-999999999.999", 1, "-999999999.998", "0.001");
        dueWorked("fails", 1, "-999999999.999", "0.001");
        dueWorked("fails", 2, "999999999.999", "999999999.999");
        dueWorked("fails", 2, "-999999999.999", "999999999.999");
        dueWorked("fails", 2, "100000", "-10000");
        dueWorked("999990000", 2, "99999", "10000");
        dueWorked("-999999999.999", 2, "-999999999.999", "1");
        dueWorked("fails", 2, "999999999.999", "1.001");
        dueWorked("999999999", 3, "999999.999", "0.001");
        dueWorked("fails", 3, "-1000000", "0.001");
        dueWorked("-999999999.999", 3, "999999999.999", "-1");
    }

    private static void groupSums() {
        Form x = new Form();
        int g = x.top(Form.GROUP, 1);
        int sum = x.top(Form.NUMBER, 9);
        x.f.formula(sum, 6, g, -5);
        Check.due("an empty group", 1, () -> x.f.calculate());
        x.dueShown("0.000", sum);
        int n = x.f.field(g, Form.NUMBER, 1);
        x.f.field(g, Form.NUMBER, 1);
        int deep = x.f.field(g, Form.GROUP, 2);
        int m = x.f.field(deep, Form.NUMBER, 1);
        int deepAgain = x.f.field(g, Form.GROUP, 2);
        x.f.field(deepAgain, Form.NUMBER, 1);
        int box = x.f.field(g, Form.BOX, 3);
        x.f.value(box, 1);
        x.tell(n, "1");
        x.tell(m, "0.25");
        Check.due("each master once, no box", 1, () -> x.f.calculate());
        x.dueShown("1.250", sum);
        x.f.formula(sum, 6, deepAgain, 0);
        x.f.calculate();
        x.dueShown("0.250", sum);
        x.f.formula(sum, 6, g, 0);
        x.tell(m, "-");
        Check.due("no amount in it", 0, () -> x.f.calculate());
        Check.due("it failed", sum, () -> x.f.failed(0));
    }

    private static void constantsAreWritten() {
        int[] thousandths = {0, 5, -5, 50, 500, 1000, -10010, Integer.MAX_VALUE, Integer.MIN_VALUE};
        String[] want = {"0", "0.005", "-0.005", "0.05", "0.5", "1", "-10.01", "2147483.647", "-2147483.648"};
        Form x = new Form();
        int n = x.top(Form.NUMBER, 1);
        for (int i = 0; i < want.length; i++) {
            x.f.formula(n, 7, thousandths[i], 0);
            Check.due("written", 1, () -> x.f.calculate());
            x.dueData("1=" + want[i] + "\n");
            Check.due("the same signs", 0, () -> x.f.calculate());
        }
        x.f.formula(n, 7, 1500, 0);
        x.tell(n, "1.50");
        Check.due("other signs of the same amount", 1, () -> x.f.calculate());
        x.f.formula(n, -1, 0, 0);
        x.tell(n, "7");
        Check.due("no formula", 0, () -> x.f.calculate());
        x.dueData("1=7\n");
    }

    private static void theOrderIsByNeed() {
        Form x = new Form();
        for (int i = 0; i < 4; i++) {
            x.top(Form.NUMBER, i);
        }
        int again = x.top(Form.NUMBER, 2);
        x.f.formula(0, 0, 1, again);
        x.f.formula(1, 2, 2, 3);
        x.f.formula(2, 7, 2000, 0);
        x.tell(3, "1.5");
        Check.due("three", 3, () -> x.f.calculate());
        x.dueData("0=5\n1=3\n2=2\n3=1.5\n");
        x.tell(3, "-");
        Check.due("the old one stays and is used", 0, () -> x.f.calculate());
        Check.due("one failed", 1, () -> x.f.failed(-1));
        Check.due("that", 1, () -> x.f.failed(0));
        x.f.formula(again, 7, 4000, 0);
        Check.due("two", 2, () -> x.f.calculate());
        x.dueData("0=7\n1=3\n2=4\n3=-\n");
    }

    private static void failuresAreTold() {
        Form x = new Form();
        for (int i = 0; i < 4; i++) {
            x.top(Form.NUMBER, i);
        }
        x.tell(3, "-");
        x.f.formula(0, 0, 2, 3);
        x.f.formula(1, 0, 3, 3);
        x.f.formula(2, 0, 3, 3);
        Check.due("none changed", 0, () -> x.f.calculate());
        Check.due("three", 3, () -> x.f.failed(-1));
        Check.due("first", 1, () -> x.f.failed(0));
        Check.due("second", 2, () -> x.f.failed(1));
        Check.due("third, when what it needs is worked out", 0, () -> x.f.failed(2));
        Check.refused("fourth", Form.INDEX, () -> x.f.failed(3));
        Check.refused("-2", Form.INDEX, () -> x.f.failed(-2));
        x.f.formula(3, 0, 3, 3);
        Check.due("a ring", -4, () -> x.f.calculate());
        Check.due("the failures stay", 3, () -> x.f.failed(-1));
        x.f.formula(3, 7, 1, 0);
        Check.due("all", 4, () -> x.f.calculate());
        Check.due("no failures", 0, () -> x.f.failed(-1));
        Check.refused("no first", Form.INDEX, () -> x.f.failed(0));
    }

    private static void failingIsTold() {
        Form x = new Form();
        int n = x.top(Form.NUMBER, 1);
        int same = x.top(Form.NUMBER, 1);
        int b = x.top(Form.BOX, 2);
        Check.refused("missing", Form.MISSING, () -> x.f.fails(3, true));
        Check.refused("box", Form.ARGUMENT, () -> x.f.fails(b, true));
        Check.due("on", 0, () -> x.f.fails(same, true));
        Check.due("on again", 1, () -> x.f.fails(n, true));
        Check.due("no formula, nothing fails", 0, () -> x.f.calculate());
        Check.due("none failed", 0, () -> x.f.failed(-1));
        x.f.formula(n, 7, 1, 0);
        Check.due("it fails", 0, () -> x.f.calculate());
        Check.due("the master", n, () -> x.f.failed(0));
        x.f.formula(n, 7, 2, 0);
        x.f.calculate();
        Check.due("another formula fails too", 1, () -> x.f.failed(-1));
        Check.due("off", 1, () -> x.f.fails(same, false));
        Check.due("off again", 0, () -> x.f.fails(n, false));
        Check.due("worked out", 1, () -> x.f.calculate());
    }

    private static void rings() {
        Form x = new Form();
        int g = x.top(Form.GROUP, 0);
        for (int i = 1; i <= 4; i++) {
            x.f.field(g, Form.NUMBER, i);
        }
        int outside = x.top(Form.NUMBER, 5);
        x.f.formula(1, 0, 3, 3);
        x.f.formula(3, 0, 2, 4);
        x.f.formula(4, 0, 2, 3);
        x.f.formula(2, 7, 1000, 0);
        Check.due("3 and 4; 1 needs them only", -4, () -> x.f.calculate());
        x.dueData("0.1=\n0.2=\n0.3=\n0.4=\n5=\n");
        x.f.fails(4, true);
        Check.due("also when one is told to fail", -4, () -> x.f.calculate());
        x.f.formula(4, 6, g, 0);
        x.f.formula(3, -1, 0, 0);
        Check.due("the sum of its own group", -5, () -> x.f.calculate());
        x.f.formula(4, -1, 0, 0);
        x.f.formula(outside, 6, g, 0);
        x.f.formula(2, 0, outside, outside);
        Check.due("round by a group", -3, () -> x.f.calculate());
        x.f.formula(2, -1, 0, 0);
        Check.due("no ring: 1 and the sum", 2, () -> x.f.calculate());
    }

    private static void fortyFormulas() {
        Form x = new Form();
        for (int i = 0; i < 40; i++) {
            x.top(Form.NUMBER, i);
        }
        for (int i = 0; i < 39; i++) {
            x.f.formula(i, 0, i + 1, 39);
        }
        x.f.formula(39, 7, 1, 0);
        Check.due("all, from the last on", 40, () -> x.f.calculate());
        x.dueShown("0.040", 0);
        x.f.formula(39, 0, 38, 38);
        Check.due("only the last two are in a ring", -39, () -> x.f.calculate());
        x.f.formula(39, 0, 0, 0);
        Check.due("all are", -1, () -> x.f.calculate());
        x.dueShown("0.040", 0);
        x.f.formula(39, 7, 1, 0);
        for (int i = 0; i < 40; i++) {
            x.f.fails(i, true);
        }
        Check.due("all fail", 0, () -> x.f.calculate());
        Check.due("forty", 40, () -> x.f.failed(-1));
        Check.due("the last of them", 0, () -> x.f.failed(39));
    }

    private static void formulasWriteWhatIsLocked() {
        Form x = new Form();
        int n = x.top(Form.NUMBER, 1);
        x.f.formula(n, 7, 1000, 0);
        x.f.lock(n, true);
        x.f.flatten(n);
        Check.due("written", 1, () -> x.f.calculate());
        x.dueShown("1.000", n);
    }
}
