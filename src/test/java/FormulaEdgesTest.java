/** The edges of formulas: what the terms say of them, promises 7 to 10. */
public final class FormulaEdgesTest {
    public static void main(String[] args) {
        formulas();
        failing();
        formula();
        calculate();
        failed();
        fails();
        Check.end();
    }

    private static void formulas() {
        Sentence.holds("Terms", "with a and b fields that are NUMBERS or BOXES", FormulaEdgesTest::numbersAndBoxesMayStandInThem);
        Sentence.holds("Terms", "op 0 their sum, 1 a less b", FormulaEdgesTest::sumsAndDifferences);
        Sentence.holds("Terms", "2 a times b", FormulaEdgesTest::productsAreCutOffTowards0);
        Sentence.holds("Terms", "3 a by b", FormulaEdgesTest::quotientsAreCutOffTowards0);
        Sentence.holds("Terms", "(thousandths, cut off towards 0)", FormulaEdgesTest::whatIsLessThanAThousandthIsCutOff);
        Sentence.holds("Terms", "4 the lesser, 5 the greater", FormulaEdgesTest::theLesserAndTheGreater);
        Sentence.holds("Terms", "6 the sum of all NUMBERS in GROUP a, at any depth (each MASTER once)", FormulaEdgesTest::theSumOfAnEmptyGroupIs0);
        Sentence.holds("Terms", "6 the sum of all NUMBERS in GROUP a, at any depth (each MASTER once)", FormulaEdgesTest::numbersAloneAreSummed);
        Sentence.holds("Terms", "at any depth", FormulaEdgesTest::theDeepestNumberIsSummed);
        Sentence.holds("Terms", "(each MASTER once)", FormulaEdgesTest::eachMasterIsSummedOnce);
        Sentence.holds("Terms", "7 a thousandths", FormulaEdgesTest::theLeastAndTheGreatestThousandths);
        Sentence.holds("Terms", "It NEEDS these fields.", FormulaEdgesTest::opsNeedTheirFields);
        Sentence.holds("Terms", "It NEEDS these fields.", FormulaEdgesTest::noneNeedsWhatItsOpLeavesOut);
    }

    private static void failing() {
        Sentence.holds("Terms", "One FAILS when it is told to", FormulaEdgesTest::itFailsWhenTold);
        Sentence.holds("Terms", "when something that it NEEDS has no AMOUNT", FormulaEdgesTest::itFailsWithoutAmounts);
        Sentence.holds("Terms", "by 0", FormulaEdgesTest::itFailsBy0);
        Sentence.holds("Terms", "or beyond 999999999999 either way", FormulaEdgesTest::sumsBeyondFail);
        Sentence.holds("Terms", "or beyond 999999999999 either way", FormulaEdgesTest::productsBeyondFail);
        Sentence.holds("Terms", "or beyond 999999999999 either way", FormulaEdgesTest::productsThatWrapAroundFail);
        Sentence.holds("Terms", "or beyond 999999999999 either way", FormulaEdgesTest::quotientsBeyondFail);
        Sentence.holds("Terms", "or beyond 999999999999 either way", FormulaEdgesTest::groupSumsBeyondFail);
    }

    private static void formula() {
        Sentence.holds("Promise 7", "A NUMBER gets a FORMULA in place of the one that it had (op = -1: none): 1 if it had one, else 0.", FormulaEdgesTest::formulaTellsIfItHadOne);
        Sentence.holds("Promise 7", "in place of the one that it had", FormulaEdgesTest::theLatestFormulaCounts);
        Sentence.holds("Promise 7", "(op = -1: none)", FormulaEdgesTest::noFormulaIsNotWorkedOut);
        Sentence.holds("Promise 7", "NoSuchElementException (field; a, b of ops 0 to 5, a of op 6)", FormulaEdgesTest::formulaOfNoField);
        Sentence.holds("Promise 7", "a, b of ops 0 to 5", FormulaEdgesTest::aOrBIsMissing);
        Sentence.holds("Promise 7", "a of op 6", FormulaEdgesTest::theGroupIsMissing);
        Sentence.holds("Promise 7", "(field; a, b of ops 0 to 5, a of op 6)", FormulaEdgesTest::whatAnOpLeavesOutMayBeAnything);
        Sentence.holds("Promise 7", "IllegalArgumentException: KINDS, or op.", FormulaEdgesTest::formulasOfOtherKinds);
        Sentence.holds("Promise 7", "IllegalArgumentException: KINDS, or op.", FormulaEdgesTest::aAndBOfOtherKinds);
        Sentence.holds("Promise 7", "IllegalArgumentException: KINDS, or op.", FormulaEdgesTest::theGroupIsNone);
        Sentence.holds("Promise 7", "or op.", FormulaEdgesTest::noSuchOp);
    }

    private static void calculate() {
        Sentence.holds("Promise 8", "All FORMULAS are worked out", FormulaEdgesTest::withoutFormulasNothingIsWorkedOut);
        Sentence.holds("Promise 8", "All FORMULAS are worked out", FormulaEdgesTest::fortyFormulasAreWorkedOut);
        Sentence.holds("Promise 8", "again and again the least MASTER whose FORMULA NEEDS none that is not worked out yet", FormulaEdgesTest::whatIsNeededComesFirst);
        Sentence.holds("Promise 8", "again and again the least MASTER whose FORMULA NEEDS none that is not worked out yet", FormulaEdgesTest::theLeastComesFirst);
        Sentence.holds("Promise 8", "again and again the least MASTER whose FORMULA NEEDS none that is not worked out yet", FormulaEdgesTest::theLeastIsSoughtAgainEachTime);
        Sentence.holds("Promise 8", "what it comes to is written, unless it FAILS", FormulaEdgesTest::whatFailsStaysAsItWas);
        Sentence.holds("Promise 8", "what it comes to is written, unless it FAILS", FormulaEdgesTest::whatFailedIsWorkedOutForOthers);
        Sentence.holds("Promise 8", "what it comes to is written", FormulaEdgesTest::lockedAndFlatOnesAreWritten);
        Sentence.holds("Promise 8", "how many have other SIGNS than before", FormulaEdgesTest::otherSignsAreCounted);
        Sentence.holds("Promise 8", "When some NEED each other in a ring: -1 less the least MASTER in a ring", FormulaEdgesTest::aRingOfOne);
        Sentence.holds("Promise 8", "When some NEED each other in a ring: -1 less the least MASTER in a ring", FormulaEdgesTest::aRingOfTwo);
        Sentence.holds("Promise 8", "When some NEED each other in a ring: -1 less the least MASTER in a ring", FormulaEdgesTest::aRingOfForty);
        Sentence.holds("Promise 8", "the least MASTER in a ring", FormulaEdgesTest::onlyThoseInARingCount);
        Sentence.holds("Promise 8", "the least MASTER in a ring", FormulaEdgesTest::theLeastOfTwoRings);
        Sentence.holds("Promise 8", "the least MASTER in a ring", FormulaEdgesTest::ringsThroughMastersAndGroups);
        Sentence.holds("Promise 8", "and nothing is worked out", FormulaEdgesTest::withARingNothingIsWorkedOut);
    }

    private static void failed() {
        Sentence.holds("Promise 9", "The MASTER of the i-th FORMULA that FAILED in the latest calculate() (without a ring), in order", FormulaEdgesTest::failuresAreInTheirOrder);
        Sentence.holds("Promise 9", "in the latest calculate()", FormulaEdgesTest::theLatestFailuresCount);
        Sentence.holds("Promise 9", "(without a ring)", FormulaEdgesTest::aRingLeavesTheFailures);
        Sentence.holds("Promise 9", "i = -1: how many", FormulaEdgesTest::howManyFailed);
        Sentence.holds("Promise 9", "IndexOutOfBoundsException.", FormulaEdgesTest::noSuchFailure);
    }

    private static void fails() {
        Sentence.holds("Promise 10", "The FORMULA of a field FAILS from now on, or not: what it was (1, 0).", FormulaEdgesTest::failsTellsWhatItWas);
        Sentence.holds("Promise 10", "FAILS from now on, or not", FormulaEdgesTest::fromNowOnUntilItIsToldNot);
        Sentence.holds("Promise 10", "NoSuchElementException", FormulaEdgesTest::failsOfNoField);
        Sentence.holds("Promise 10", "IllegalArgumentException: it is no NUMBER.", FormulaEdgesTest::failsOfOtherKinds);
    }

    /** What op comes to of two numbers with these signs, or "fails". */
    private static void dueWorked(String want, int op, String a, String b) {
        Form x = new Form();
        int left = x.top(Form.NUMBER, 1);
        int right = x.top(Form.NUMBER, 2);
        int result = x.top(Form.NUMBER, 3);
        x.tell(left, a);
        x.tell(right, b);
        x.tell(result, "12.50");
        x.f.formula(result, op, left, right);
        boolean fails = want.equals("fails");
        Check.due(a + " op " + op + " " + b + " changes", fails ? 0 : 1, () -> x.f.calculate());
        Check.same(a + " op " + op + " " + b, fails ? "12.50" : want, x.lineOf("3"));
        Check.due("failures", fails ? 1 : 0, () -> x.f.failed(-1));
    }

    private static Form numbers(int count) {
        Form x = new Form();
        for (int i = 0; i < count; i++) {
            x.top(Form.NUMBER, i);
        }
        return x;
    }

    private static void numbersAndBoxesMayStandInThem() {
        Form x = Form.everyKind();
        x.f.value(Form.BOX, 1);
        int other = x.top(Form.NUMBER, 9);
        x.tell(other, "2.5");
        String[] want = {"3.5", "-1.5", "2.5", "0.4", "1", "2.5"};
        String[] turned = {"3.5", "1.5", "2.5", "2.5", "1", "2.5"};
        for (int op = 0; op <= 5; op++) {
            x.f.formula(Form.NUMBER, op, Form.BOX, other);
            x.f.calculate();
            Check.same("a box and a number", want[op], x.lineOf("5"));
            x.f.formula(Form.NUMBER, op, other, Form.BOX);
            x.f.calculate();
            Check.same("a number and a box", turned[op], x.lineOf("5"));
        }
        x.f.formula(Form.NUMBER, 0, Form.BOX, Form.BOX);
        x.f.calculate();
        Check.same("a box twice", "2", x.lineOf("5"));
    }

    private static void sumsAndDifferences() {
        dueWorked("0", 0, "", "");
        dueWorked("0", 0, "-0.001", "0.001");
        dueWorked("1", 0, "0.999", "0.001");
        dueWorked("-1", 0, "-0.999", "-0.001");
        dueWorked("0", 1, "", "");
        dueWorked("-5", 1, "", "5");
        dueWorked("5", 1, "", "-5");
        dueWorked("0.999", 1, "1", "0.001");
        dueWorked("999999999.999", 0, "999999999", "0.999");
    }

    private static void productsAreCutOffTowards0() {
        dueWorked("0", 2, "", "999999999.999");
        dueWorked("0", 2, "999999999.999", "");
        dueWorked("0", 2, "-999999999.999", "-0.000");
        dueWorked("0", 2, "", "");
        dueWorked("0", 2, "0.001", "0.999");
        dueWorked("0", 2, "-0.001", "0.999");
        dueWorked("0", 2, "0.001", "-0.999");
        dueWorked("0.001", 2, "0.001", "1");
        dueWorked("0.001", 2, "0.001", "1.999");
        dueWorked("-0.001", 2, "0.001", "-1.999");
        dueWorked("-0.001", 2, "-0.001", "1.999");
        dueWorked("0.001", 2, "-0.001", "-1.999");
        dueWorked("-0.002", 2, "0.001", "-2");
        dueWorked("1.522", 2, "1.234", "1.234");
    }

    private static void quotientsAreCutOffTowards0() {
        dueWorked("0", 3, "", "5");
        dueWorked("0", 3, "0.001", "1.001");
        dueWorked("0", 3, "-0.001", "1.001");
        dueWorked("0", 3, "0.001", "-1.001");
        dueWorked("0.001", 3, "0.001", "1");
        dueWorked("0.666", 3, "2", "3");
        dueWorked("-0.666", 3, "-2", "3");
        dueWorked("-0.666", 3, "2", "-3");
        dueWorked("0.666", 3, "-2", "-3");
        dueWorked("1", 3, "999999999.999", "999999999.999");
        dueWorked("-1", 3, "-999999999.999", "999999999.999");
        dueWorked("0", 3, "0.999", "999.001");
    }

    private static void whatIsLessThanAThousandthIsCutOff() {
        String[] signs = {"", "-"};
        for (String a : signs) {
            for (String b : signs) {
                String minus = a.equals(b) ? "" : "-";
                dueWorked("0", 2, a + "0.999", b + "0.001");
                dueWorked(minus + "0.001", 2, a + "0.999", b + "0.002");
                dueWorked(minus + "0.998", 2, a + "0.999", b + "0.999");
                dueWorked("0", 3, a + "0.001", b + "1.001");
                dueWorked(minus + "0.001", 3, a + "0.001", b + "0.501");
                dueWorked(minus + "0.002", 3, a + "0.001", b + "0.5");
                dueWorked(minus + "0.999", 3, a + "999.999", b + "1000");
            }
        }
    }

    private static void theLesserAndTheGreater() {
        String[][] pairs = {{"1", "2"}, {"-2", "-1"}, {"-0.001", ""}, {"", "0.001"}, {"-999999999.999", "999999999.999"}};
        for (String[] pair : pairs) {
            String less = pair[0].isEmpty() ? "0" : pair[0];
            String more = pair[1].isEmpty() ? "0" : pair[1];
            dueWorked(less, 4, pair[0], pair[1]);
            dueWorked(less, 4, pair[1], pair[0]);
            dueWorked(more, 5, pair[0], pair[1]);
            dueWorked(more, 5, pair[1], pair[0]);
        }
        dueWorked("3", 4, "3.0", "3");
        dueWorked("3", 5, "3", "3.00");
    }

    private static void theSumOfAnEmptyGroupIs0() {
        Form x = new Form();
        int g = x.top(Form.GROUP, 1);
        int inner = x.f.field(g, Form.GROUP, 1);
        int sum = x.top(Form.NUMBER, 2);
        int outside = x.top(Form.NUMBER, 3);
        x.tell(outside, "5");
        x.f.formula(sum, 6, g, 0);
        Check.due("written", 1, () -> x.f.calculate());
        Check.same("with a group in it", "0", x.lineOf("2"));
        x.f.value(sum, -1);
        x.f.formula(sum, 6, inner, 0);
        Check.due("written", 1, () -> x.f.calculate());
        Check.same("with nothing in it", "0", x.lineOf("2"));
    }

    private static void numbersAloneAreSummed() {
        Form x = new Form();
        int g = x.top(Form.GROUP, 1);
        int t = x.f.field(g, Form.TEXT, 1);
        int b = x.f.field(g, Form.BOX, 2);
        int r = x.f.field(g, Form.RADIO, 3);
        int c = x.f.field(g, Form.CHOICE, 4);
        int n = x.f.field(g, Form.NUMBER, 5);
        int empty = x.f.field(g, Form.NUMBER, 6);
        x.tell(t, "4");
        x.f.value(b, 1);
        x.f.option(r, 5);
        x.f.value(r, 0);
        x.f.option(c, 6);
        x.f.value(c, 0);
        x.tell(n, "-0.125");
        int sum = x.top(Form.NUMBER, 2);
        x.f.formula(sum, 6, g, 0);
        x.f.calculate();
        Check.same("the number alone", "-0.125", x.lineOf("2"));
        x.tell(empty, "10");
        x.f.calculate();
        Check.same("both numbers", "9.875", x.lineOf("2"));
    }

    private static void theDeepestNumberIsSummed() {
        Form x = new Form();
        int sum = x.top(Form.NUMBER, 0);
        int[] groups = new int[38];
        int parent = -1;
        for (int i = 0; i < groups.length; i++) {
            parent = x.f.field(parent, Form.GROUP, 1);
            groups[i] = parent;
        }
        int deepest = x.f.field(parent, Form.NUMBER, 1);
        x.tell(deepest, "7");
        for (int group : groups) {
            x.f.value(sum, -1);
            x.f.formula(sum, 6, group, 0);
            x.f.calculate();
            Check.same("of group " + group, "7", x.lineOf("0"));
        }
    }

    private static void eachMasterIsSummedOnce() {
        Form x = new Form();
        int g = x.top(Form.GROUP, 1);
        int n = x.f.field(g, Form.NUMBER, 1);
        x.f.field(g, Form.NUMBER, 1);
        x.f.field(g, Form.NUMBER, 1);
        int m = x.f.field(g, Form.NUMBER, 2);
        int sum = x.top(Form.NUMBER, 2);
        x.tell(n, "1");
        x.tell(m, "1");
        x.f.formula(sum, 6, g, 0);
        x.f.calculate();
        Check.same("three of one name and one", "2", x.lineOf("2"));
        int h = x.top(Form.GROUP, 1);
        x.f.field(h, Form.NUMBER, 2);
        x.f.formula(sum, 6, h, 0);
        x.tell(m, "5");
        x.f.calculate();
        Check.same("its master stands in another group", "5", x.lineOf("2"));
    }

    private static void theLeastAndTheGreatestThousandths() {
        int[] thousandths = {0, 1, -1, 999, 1000, Integer.MAX_VALUE, Integer.MIN_VALUE};
        String[] want = {"0", "0.001", "-0.001", "0.999", "1", "2147483.647", "-2147483.648"};
        for (int i = 0; i < want.length; i++) {
            Form x = numbers(1);
            x.f.formula(0, 7, thousandths[i], 0);
            Check.due("written", 1, () -> x.f.calculate());
            Check.same("thousandths", want[i], x.lineOf("0"));
        }
    }

    private static void opsNeedTheirFields() {
        for (int op = 0; op <= 5; op++) {
            Form x = numbers(3);
            x.tell(2, "1");
            x.f.formula(0, op, 1, 2);
            x.f.formula(1, 7, 4000, 0);
            x.f.calculate();
            Check.same("a is worked out before op " + op, new String[] {"5", "3", "4", "4", "1", "4"}[op], x.lineOf("0"));
            Form y = numbers(3);
            y.tell(2, "1");
            y.f.formula(0, op, 2, 1);
            y.f.formula(1, 7, 4000, 0);
            y.f.calculate();
            Check.same("b is worked out before op " + op, new String[] {"5", "-3", "4", "0.25", "1", "4"}[op], y.lineOf("0"));
        }
        Form z = new Form();
        int sum = z.top(Form.NUMBER, 0);
        int g = z.top(Form.GROUP, 1);
        int n = z.f.field(g, Form.NUMBER, 2);
        z.f.formula(sum, 6, g, 0);
        z.f.formula(n, 7, 4000, 0);
        z.f.calculate();
        Check.same("what is in the group is worked out before", "4", z.lineOf("0"));
    }

    private static void noneNeedsWhatItsOpLeavesOut() {
        Form x = numbers(1);
        x.f.formula(0, 7, 0, 0);
        Check.due("0 thousandths, not field 0", 1, () -> x.f.calculate());
        int g = x.top(Form.GROUP, 1);
        x.f.formula(0, 6, g, 0);
        Check.due("the group alone", 0, () -> x.f.calculate());
        x.f.formula(0, -1, 0, 0);
        Check.due("no formula, no need", 0, () -> x.f.calculate());
    }

    private static void itFailsWhenTold() {
        Form x = numbers(2);
        x.tell(0, "5");
        for (int op : new int[] {0, 1, 2, 4, 5, 7}) {
            x.f.formula(0, op, 1, 1);
            x.f.fails(0, true);
            Check.due("nothing is written", 0, () -> x.f.calculate());
            Check.due("it failed", 0, () -> x.f.failed(0));
            Check.same("as it was", "5", x.lineOf("0"));
        }
        int g = x.top(Form.GROUP, 9);
        x.f.formula(0, 6, g, 0);
        Check.due("nothing is written", 0, () -> x.f.calculate());
        Check.due("it failed", 1, () -> x.f.failed(-1));
    }

    private static void itFailsWithoutAmounts() {
        for (int op = 0; op <= 5; op++) {
            dueWorked("fails", op, "-", "1");
            dueWorked("fails", op, "1", "1.");
            dueWorked("fails", op, ".", ".");
            dueWorked("fails", op, "1234567890", "1");
        }
        Form x = new Form();
        int g = x.top(Form.GROUP, 1);
        int n = x.f.field(g, Form.NUMBER, 1);
        int m = x.f.field(g, Form.NUMBER, 2);
        int sum = x.top(Form.NUMBER, 2);
        x.f.formula(sum, 6, g, 0);
        x.tell(n, "-");
        x.f.calculate();
        Check.due("the first of the group has none", sum, () -> x.f.failed(0));
        x.tell(n, "1");
        x.tell(m, "1.0000");
        x.f.calculate();
        Check.due("the last of the group has none", sum, () -> x.f.failed(0));
        x.tell(n, ".");
        x.f.calculate();
        Check.due("both have none", sum, () -> x.f.failed(0));
        Check.same("nothing is written", "", x.lineOf("2"));
    }

    private static void itFailsBy0() {
        dueWorked("fails", 3, "1", "");
        dueWorked("fails", 3, "1", "0");
        dueWorked("fails", 3, "0", "0");
        dueWorked("fails", 3, "", "");
        dueWorked("fails", 3, "1", "-0.000");
        dueWorked("1000", 3, "1", "0.001");
        Form x = Form.everyKind();
        x.f.formula(Form.NUMBER, 3, Form.BOX, Form.BOX);
        Check.due("by a box that is 0", 0, () -> x.f.calculate());
        Check.due("it failed", Form.NUMBER, () -> x.f.failed(0));
    }

    private static void sumsBeyondFail() {
        dueWorked("999999999.999", 0, "999999999.998", "0.001");
        dueWorked("fails", 0, "999999999.999", "0.001");
        dueWorked("fails", 0, "999999999.999", "999999999.999");
        dueWorked("-999999999.999", 0, "-999999999.998", "-0.001");
        dueWorked("fails", 0, "-999999999.999", "-0.001");
        dueWorked("999999999.999", 1, "999999999.998", "-0.001");
        dueWorked("fails", 1, "999999999.999", "-0.001");
        dueWorked("-999999999.999", 1, "-999999999.998", "0.001");
        dueWorked("fails", 1, "-999999999.999", "0.001");
        dueWorked("0", 1, "-999999999.999", "-999999999.999");
    }

    private static void productsBeyondFail() {
        dueWorked("999999999.999", 2, "999999999.999", "1");
        dueWorked("-999999999.999", 2, "999999999.999", "-1");
        dueWorked("fails", 2, "999999999.999", "1.001");
        dueWorked("fails", 2, "999999999.999", "-1.001");
        dueWorked("fails", 2, "500000000", "2");
        dueWorked("fails", 2, "-500000000", "2");
        dueWorked("999999999.998", 2, "499999999.999", "2");
        // 999999999.999999, which is cut off and is not beyond then
        dueWorked("999999999.999", 2, "99.999", "10000100.001");
        dueWorked("-999999999.999", 2, "99.999", "-10000100.001");
        dueWorked("fails", 2, "1000000", "1000");
        dueWorked("fails", 2, "-1000000", "1000");
    }

    private static void productsThatWrapAroundFail() {
        // in thousandths 2 to the 32nd, whose square is 0 in 64 bits
        dueWorked("fails", 2, "4294967.296", "4294967.296");
        dueWorked("fails", 2, "-4294967.296", "4294967.296");
        dueWorked("fails", 2, "8589934.592", "2147483.648");
        dueWorked("fails", 2, "8589934.592", "-2147483.648");
        // 2 to the 62nd, 63rd and beyond
        dueWorked("fails", 2, "2147483.648", "2147483.648");
        dueWorked("fails", 2, "4294967.296", "2147483.648");
        dueWorked("fails", 2, "999999999.999", "999999999.999");
        dueWorked("fails", 2, "-999999999.999", "-999999999.999");
    }

    private static void quotientsBeyondFail() {
        dueWorked("999999999", 3, "999999.999", "0.001");
        dueWorked("fails", 3, "1000000", "0.001");
        dueWorked("-999999999", 3, "-999999.999", "0.001");
        dueWorked("fails", 3, "-1000000", "0.001");
        dueWorked("fails", 3, "999999999.999", "0.001");
        dueWorked("999999999.999", 3, "999999999.999", "1");
        dueWorked("fails", 3, "999999999.999", "0.999");
        dueWorked("-999999999.999", 3, "999999999.999", "-1");
    }

    private static void groupSumsBeyondFail() {
        Form x = new Form();
        int g = x.top(Form.GROUP, 1);
        int[] n = new int[4];
        for (int i = 0; i < n.length; i++) {
            n[i] = x.f.field(g, Form.NUMBER, i);
        }
        int sum = x.top(Form.NUMBER, 2);
        x.f.formula(sum, 6, g, 0);
        x.tell(n[0], "999999999.999");
        x.f.calculate();
        Check.same("at the most", "999999999.999", x.lineOf("2"));
        x.tell(n[1], "0.001");
        x.f.calculate();
        Check.due("beyond", sum, () -> x.f.failed(0));
        x.tell(n[1], "999999999.999");
        x.tell(n[2], "-999999999.999");
        x.f.value(sum, -1);
        x.f.calculate();
        Check.same("beyond on the way, but not at its end", "999999999.999", x.lineOf("2"));
        x.tell(n[3], "-999999999.999");
        x.tell(n[1], "-999999999.999");
        x.f.calculate();
        Check.due("beyond the other way", sum, () -> x.f.failed(0));
    }

    private static void formulaTellsIfItHadOne() {
        Form x = Form.everyKind();
        int n = Form.NUMBER;
        Check.due("none at first", 0, () -> x.f.formula(n, -1, 0, 0));
        Check.due("nor then", 0, () -> x.f.formula(n, 7, 0, 0));
        for (int op = 0; op <= 5; op++) {
            int o = op;
            Check.due("it had one before op " + o, 1, () -> x.f.formula(n, o, n, n));
        }
        Check.due("op 5", 1, () -> x.f.formula(n, 6, Form.GROUP, 0));
        Check.due("op 6", 1, () -> x.f.formula(n, -1, 0, 0));
        Check.due("none", 0, () -> x.f.formula(n, 6, Form.GROUP, 0));
        int same = x.top(Form.NUMBER, Form.NUMBER);
        Check.due("by another field of its name", 1, () -> x.f.formula(same, -1, 0, 0));
        Check.due("none by the first", 0, () -> x.f.formula(n, -1, 0, 0));
    }

    private static void theLatestFormulaCounts() {
        Form x = numbers(2);
        x.f.formula(0, 7, 1000, 0);
        x.f.formula(0, 7, 2000, 0);
        Check.due("one formula", 1, () -> x.f.calculate());
        Check.same("the latest", "2", x.lineOf("0"));
        x.f.formula(0, 0, 0, 0);
        x.f.formula(0, 0, 1, 1);
        Check.due("the ring is gone with the old one", 1, () -> x.f.calculate());
        Check.same("the latest", "0", x.lineOf("0"));
    }

    private static void noFormulaIsNotWorkedOut() {
        Form x = numbers(1);
        x.f.formula(0, 7, 1000, 0);
        x.f.formula(0, -1, 0, 0);
        Check.due("nothing", 0, () -> x.f.calculate());
        Check.same("nothing is written", "", x.lineOf("0"));
    }

    private static void formulaOfNoField() {
        Form x = Form.everyKind();
        for (int op = -2; op <= 8; op++) {
            int o = op;
            int a = op == 6 ? Form.GROUP : Form.NUMBER;
            Form.dueMissing("formula", 6, n -> x.f.formula(n, o, a, Form.NUMBER));
        }
    }

    private static void aOrBIsMissing() {
        Form x = Form.everyKind();
        int n = Form.NUMBER;
        for (int op = 0; op <= 5; op++) {
            int o = op;
            Form.dueMissing("a", 6, far -> x.f.formula(n, o, far, n));
            Form.dueMissing("b", 6, far -> x.f.formula(n, o, n, far));
            Form.dueMissing("both", 6, far -> x.f.formula(n, o, far, far));
        }
        Check.due("no formula came of it", 0, () -> x.f.formula(n, -1, 0, 0));
    }

    private static void theGroupIsMissing() {
        Form x = Form.everyKind();
        Form.dueMissing("the group", 6, far -> x.f.formula(Form.NUMBER, 6, far, 0));
        Check.due("no formula came of it", 0, () -> x.f.formula(Form.NUMBER, -1, 0, 0));
    }

    private static void whatAnOpLeavesOutMayBeAnything() {
        Form x = Form.everyKind();
        int[] anything = {-1, 6, 40, Integer.MIN_VALUE, Integer.MAX_VALUE, Form.TEXT};
        for (int far : anything) {
            Check.due("b of op 6", 0, () -> x.f.formula(Form.NUMBER, 6, Form.GROUP, far));
            Check.due("calculate", 1, () -> x.f.calculate());
            Check.due("a, b of op -1", 1, () -> x.f.formula(Form.NUMBER, -1, far, far));
            Check.due("calculate", 0, () -> x.f.calculate());
            Check.due("a, b of op 7", 0, () -> x.f.formula(Form.NUMBER, 7, far, far));
            Check.due("calculate", 1, () -> x.f.calculate());
            Check.due("no formula", 1, () -> x.f.formula(Form.NUMBER, -1, 0, 0));
        }
    }

    private static void formulasOfOtherKinds() {
        Form x = Form.everyKind();
        for (int kind = Form.GROUP; kind < Form.NUMBER; kind++) {
            int field = kind;
            for (int op = -1; op <= 7; op++) {
                int o = op;
                int a = op == 6 ? Form.GROUP : Form.NUMBER;
                Check.refused("op " + op + " of kind " + kind, Form.ARGUMENT, () -> x.f.formula(field, o, a, Form.NUMBER));
            }
        }
        Check.due("no formulas", 0, () -> x.f.calculate());
    }

    private static void aAndBOfOtherKinds() {
        Form x = Form.everyKind();
        for (int kind : new int[] {Form.GROUP, Form.TEXT, Form.RADIO, Form.CHOICE}) {
            for (int op = 0; op <= 5; op++) {
                int o = op;
                Check.refused("a of kind " + kind, Form.ARGUMENT, () -> x.f.formula(Form.NUMBER, o, kind, Form.BOX));
                Check.refused("b of kind " + kind, Form.ARGUMENT, () -> x.f.formula(Form.NUMBER, o, Form.BOX, kind));
            }
        }
        Check.due("no formula came of it", 0, () -> x.f.formula(Form.NUMBER, -1, 0, 0));
    }

    private static void theGroupIsNone() {
        Form x = Form.everyKind();
        for (int kind = Form.TEXT; kind <= Form.NUMBER; kind++) {
            int a = kind;
            Check.refused("kind " + kind, Form.ARGUMENT, () -> x.f.formula(Form.NUMBER, 6, a, Form.GROUP));
        }
        Check.due("no formula came of it", 0, () -> x.f.formula(Form.NUMBER, 6, Form.GROUP, 0));
    }

    private static void noSuchOp() {
        Form x = numbers(1);
        for (int op : new int[] {-2, 8, 9, Integer.MIN_VALUE, Integer.MAX_VALUE}) {
            Check.refused("op " + op, Form.ARGUMENT, () -> x.f.formula(0, op, 0, 0));
            Check.refused("op " + op + " of no fields", Form.ARGUMENT, () -> x.f.formula(0, op, 40, 40));
        }
        Check.due("no formula came of it", 0, () -> x.f.formula(0, -1, 0, 0));
    }

    private static void withoutFormulasNothingIsWorkedOut() {
        Form x = Form.everyKind();
        x.tell(Form.NUMBER, "-");
        Check.due("nothing", 0, () -> x.f.calculate());
        Check.due("nothing failed", 0, () -> x.f.failed(-1));
        Check.same("as it was", "-", x.lineOf("5"));
    }

    private static void fortyFormulasAreWorkedOut() {
        Form x = numbers(40);
        for (int i = 0; i < 40; i++) {
            x.f.formula(i, 7, i + 1, 0);
        }
        Check.due("all", 40, () -> x.f.calculate());
        for (int i = 0; i < 40; i++) {
            Check.same("number " + i, i < 9 ? "0.00" + (i + 1) : ("0.0" + (i + 1)).replaceAll("0$", ""), x.lineOf("" + i));
        }
    }

    private static void whatIsNeededComesFirst() {
        Form x = numbers(40);
        for (int i = 0; i < 39; i++) {
            x.f.formula(i, 0, i + 1, i + 1);
        }
        x.f.formula(39, 7, 1, 0);
        x.f.formula(8, 7, 0, 0);
        Check.due("all, the last first", 40, () -> x.f.calculate());
        Check.same("twice and twice again", "1073741.824", x.lineOf("9"));
        Check.same("from 8 on", "0", x.lineOf("0"));
    }

    private static void theLeastComesFirst() {
        Form x = numbers(6);
        for (int i = 5; i >= 0; i--) {
            x.f.formula(i, 7, 1, 0);
            x.f.fails(i, true);
        }
        x.f.calculate();
        for (int i = 0; i < 6; i++) {
            int at = i;
            Check.due("failure " + i, i, () -> x.f.failed(at));
        }
    }

    private static void theLeastIsSoughtAgainEachTime() {
        Form x = numbers(5);
        x.f.formula(0, 0, 2, 2);
        x.f.formula(1, 0, 4, 4);
        x.f.formula(2, 7, 1, 0);
        x.f.formula(3, 7, 1, 0);
        x.f.formula(4, 7, 1, 0);
        for (int i = 0; i < 5; i++) {
            x.f.fails(i, true);
        }
        x.f.calculate();
        int[] want = {2, 0, 3, 4, 1};
        for (int i = 0; i < 5; i++) {
            int at = i;
            Check.due("failure " + i, want[i], () -> x.f.failed(at));
        }
    }

    private static void whatFailsStaysAsItWas() {
        Form x = numbers(2);
        x.tell(0, "1.");
        x.tell(1, "00.50");
        x.f.formula(1, 0, 0, 0);
        Check.due("nothing", 0, () -> x.f.calculate());
        Check.same("as it was", "00.50", x.lineOf("1"));
        x.f.formula(1, 3, 1, 1);
        x.f.formula(0, 3, 1, 1);
        x.f.formula(1, -1, 0, 0);
        x.tell(1, "0");
        Check.due("nothing", 0, () -> x.f.calculate());
        Check.same("as it was", "1.", x.lineOf("0"));
    }

    private static void whatFailedIsWorkedOutForOthers() {
        Form x = numbers(3);
        x.tell(0, "4");
        x.f.formula(0, 7, 9000, 0);
        x.f.fails(0, true);
        x.f.formula(1, 0, 0, 0);
        Check.due("of what it was", 1, () -> x.f.calculate());
        Check.same("twice 4", "8", x.lineOf("1"));
        x.tell(0, "-");
        Check.due("of what has no amount", 0, () -> x.f.calculate());
        Check.due("both failed", 2, () -> x.f.failed(-1));
        Check.same("as it was", "8", x.lineOf("1"));
    }

    private static void lockedAndFlatOnesAreWritten() {
        Form x = numbers(2);
        x.f.formula(0, 7, 1000, 0);
        x.f.formula(1, 7, 2000, 0);
        x.f.lock(0, true);
        x.f.flatten(1);
        Check.due("both", 2, () -> x.f.calculate());
        x.dueData("0=1\n1=2\n");
    }

    private static void otherSignsAreCounted() {
        Form x = numbers(3);
        x.f.formula(0, 7, 1500, 0);
        x.f.formula(1, 7, 0, 0);
        x.f.formula(2, 7, -1000, 0);
        Check.due("of no signs, 0 too", 3, () -> x.f.calculate());
        Check.due("the same signs", 0, () -> x.f.calculate());
        x.tell(0, "1.50");
        Check.due("one more sign of the same amount", 1, () -> x.f.calculate());
        x.tell(1, "1");
        Check.due("another sign", 1, () -> x.f.calculate());
        x.tell(2, "-");
        Check.due("one sign less", 1, () -> x.f.calculate());
        x.tell(2, "-2");
        x.tell(0, "1.6");
        Check.due("the last sign is another", 2, () -> x.f.calculate());
    }

    private static void aRingOfOne() {
        for (int n = 0; n < 3; n++) {
            for (int op = 0; op <= 5; op++) {
                int field = n;
                Form x = numbers(3);
                x.f.formula(field, op, field, (field + 1) % 3);
                Check.due("by a", -1 - field, () -> x.f.calculate());
                x.f.formula(field, op, (field + 1) % 3, field);
                Check.due("by b", -1 - field, () -> x.f.calculate());
            }
        }
        Form y = new Form();
        y.top(Form.BOX, 1);
        int g = y.top(Form.GROUP, 2);
        int n = y.f.field(g, Form.NUMBER, 1);
        y.f.formula(n, 6, g, 0);
        Check.due("by its group", -1 - n, () -> y.f.calculate());
    }

    private static void aRingOfTwo() {
        Form x = numbers(4);
        x.f.formula(1, 0, 3, 0);
        x.f.formula(3, 0, 0, 1);
        Check.due("1 and 3", -2, () -> x.f.calculate());
        x.f.formula(3, -1, 0, 0);
        Check.due("no ring", 1, () -> x.f.calculate());
    }

    private static void aRingOfForty() {
        Form x = numbers(40);
        for (int i = 0; i < 40; i++) {
            x.f.formula(i, 4, (i + 7) % 40, (i + 7) % 40);
        }
        Check.due("all forty", -1, () -> x.f.calculate());
        x.f.formula(0, 7, 0, 0);
        Check.due("none", 40, () -> x.f.calculate());
        x.f.formula(39, 0, 39, 0);
        Check.due("the last alone", -40, () -> x.f.calculate());
    }

    private static void onlyThoseInARingCount() {
        Form x = numbers(6);
        x.f.formula(0, 0, 3, 3);
        x.f.formula(1, 7, 1, 0);
        x.f.formula(3, 0, 5, 1);
        x.f.formula(5, 0, 3, 2);
        x.f.formula(2, 7, 1, 0);
        Check.due("0 needs the ring, the ring needs 1 and 2", -4, () -> x.f.calculate());
        x.f.fails(3, true);
        Check.due("also when it is told to fail", -4, () -> x.f.calculate());
    }

    private static void theLeastOfTwoRings() {
        Form x = numbers(7);
        x.f.formula(6, 0, 2, 2);
        x.f.formula(2, 0, 6, 6);
        x.f.formula(3, 0, 4, 4);
        x.f.formula(4, 0, 3, 3);
        Check.due("2 and 6, 3 and 4", -3, () -> x.f.calculate());
        x.f.formula(2, -1, 0, 0);
        Check.due("3 and 4", -4, () -> x.f.calculate());
        x.f.formula(5, 0, 5, 3);
        x.f.formula(3, -1, 0, 0);
        Check.due("5", -6, () -> x.f.calculate());
    }

    private static void ringsThroughMastersAndGroups() {
        Form x = new Form();
        int g = x.top(Form.GROUP, 0);
        int first = x.f.field(g, Form.NUMBER, 1);
        int second = x.f.field(g, Form.NUMBER, 1);
        int other = x.top(Form.NUMBER, 2);
        x.f.formula(second, 0, second, other);
        Check.due("told of the second, of the first", -1 - first, () -> x.f.calculate());
        x.f.formula(first, 0, other, other);
        x.f.formula(other, 6, g, 0);
        Check.due("through the group", -1 - first, () -> x.f.calculate());
        x.f.formula(first, -1, 0, 0);
        int late = x.f.field(g, Form.NUMBER, 3);
        Check.due("no ring", 1, () -> x.f.calculate());
        x.f.formula(late, 0, other, other);
        Check.due("through a field that came later", -1 - other, () -> x.f.calculate());
    }

    private static void withARingNothingIsWorkedOut() {
        Form x = numbers(4);
        x.f.formula(0, 7, 1000, 0);
        x.f.formula(1, 0, 2, 2);
        x.f.formula(2, 0, 1, 1);
        x.f.formula(3, 7, 1000, 0);
        Check.due("a ring", -2, () -> x.f.calculate());
        x.dueData("0=\n1=\n2=\n3=\n");
        Check.due("nothing failed", 0, () -> x.f.failed(-1));
        x.f.formula(2, -1, 0, 0);
        Check.due("now", 3, () -> x.f.calculate());
        x.dueData("0=1\n1=0\n2=\n3=1\n");
    }

    private static void failuresAreInTheirOrder() {
        Form x = new Form();
        x.top(Form.BOX, 9);
        for (int i = 1; i <= 3; i++) {
            x.top(Form.NUMBER, i);
        }
        int same = x.top(Form.NUMBER, 3);
        x.tell(1, "-");
        x.f.formula(1, 0, same, same);
        x.f.formula(2, 3, 0, 0);
        x.f.formula(same, 3, 0, 0);
        x.f.fails(1, true);
        x.f.calculate();
        Check.due("the least that needs none", 2, () -> x.f.failed(0));
        Check.due("the master of the next", 3, () -> x.f.failed(1));
        Check.due("the one that needs it", 1, () -> x.f.failed(2));
        Check.due("three", 3, () -> x.f.failed(-1));
    }

    private static void theLatestFailuresCount() {
        Form x = numbers(2);
        x.f.formula(0, 3, 1, 1);
        x.f.calculate();
        Check.due("one", 1, () -> x.f.failed(-1));
        x.f.calculate();
        Check.due("still one", 1, () -> x.f.failed(-1));
        x.tell(1, "1");
        Check.due("until the next calculate()", 0, () -> x.f.failed(0));
        x.f.formula(0, -1, 0, 0);
        Check.due("also without the formula", 0, () -> x.f.failed(0));
        x.f.calculate();
        Check.due("none", 0, () -> x.f.failed(-1));
        Check.refused("no first", Form.INDEX, () -> x.f.failed(0));
    }

    private static void aRingLeavesTheFailures() {
        Form x = numbers(3);
        x.f.formula(2, 3, 1, 1);
        x.f.calculate();
        x.f.formula(0, 0, 0, 0);
        Check.due("a ring", -1, () -> x.f.calculate());
        Check.due("as before it", 1, () -> x.f.failed(-1));
        Check.due("as before it", 2, () -> x.f.failed(0));
    }

    private static void howManyFailed() {
        Form x = numbers(40);
        Check.due("before the first calculate()", 0, () -> x.f.failed(-1));
        for (int i = 0; i < 40; i++) {
            x.f.formula(i, 7, 0, 0);
            x.f.fails(i, true);
        }
        Check.due("not before it", 0, () -> x.f.failed(-1));
        x.f.calculate();
        Check.due("all", 40, () -> x.f.failed(-1));
        Check.due("the last", 39, () -> x.f.failed(39));
        Check.refused("behind it", Form.INDEX, () -> x.f.failed(40));
    }

    private static void noSuchFailure() {
        Form x = numbers(2);
        int[] far = {-2, 1, 2, 39, 40, Integer.MIN_VALUE, Integer.MAX_VALUE};
        Check.refused("without any", Form.INDEX, () -> x.f.failed(0));
        x.f.formula(1, 3, 0, 0);
        x.f.calculate();
        for (int i : far) {
            Check.refused("failure " + i, Form.INDEX, () -> x.f.failed(i));
        }
        Check.due("the one", 1, () -> x.f.failed(0));
    }

    private static void failsTellsWhatItWas() {
        Form x = numbers(1);
        int same = x.top(Form.NUMBER, 0);
        Check.due("not at first", 0, () -> x.f.fails(0, false));
        Check.due("nor then", 0, () -> x.f.fails(0, true));
        Check.due("it fails", 1, () -> x.f.fails(0, true));
        Check.due("by another of its name", 1, () -> x.f.fails(same, false));
        Check.due("no more", 0, () -> x.f.fails(0, false));
    }

    private static void fromNowOnUntilItIsToldNot() {
        Form x = numbers(1);
        x.f.formula(0, 7, 1000, 0);
        x.f.fails(0, true);
        for (int i = 0; i < 3; i++) {
            Check.due("it fails", 0, () -> x.f.calculate());
            Check.due("each time", 1, () -> x.f.failed(-1));
        }
        x.f.formula(0, -1, 0, 0);
        Check.due("no formula fails", 0, () -> x.f.calculate());
        Check.due("none failed", 0, () -> x.f.failed(-1));
        x.f.formula(0, 7, 2000, 0);
        Check.due("the next one does", 0, () -> x.f.calculate());
        Check.due("it failed", 1, () -> x.f.failed(-1));
        x.f.fails(0, false);
        Check.due("not now", 1, () -> x.f.calculate());
        Check.due("not now", 0, () -> x.f.failed(-1));
    }

    private static void failsOfNoField() {
        Form x = Form.everyKind();
        Form.dueMissing("fails", 6, n -> x.f.fails(n, true));
        Form.dueMissing("fails not", 6, n -> x.f.fails(n, false));
    }

    private static void failsOfOtherKinds() {
        Form x = Form.everyKind();
        for (int kind = Form.GROUP; kind < Form.NUMBER; kind++) {
            int field = kind;
            Check.refused("kind " + kind, Form.ARGUMENT, () -> x.f.fails(field, true));
            Check.refused("kind " + kind, Form.ARGUMENT, () -> x.f.fails(field, false));
        }
    }
}
