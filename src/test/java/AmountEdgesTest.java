/** The edges of amounts: what the terms say of them, what is shown of a NUMBER, promises 6 and 13. */
public final class AmountEdgesTest {
    private static final long MOST = 999999999999L;

    public static void main(String[] args) {
        amounts();
        shown();
        bounds();
        validate();
        Check.end();
    }

    private static void amounts() {
        Sentence.holds("Terms", "THE AMOUNT of a NUMBER without SIGNS is 0", AmountEdgesTest::withoutSignsItIs0);
        Sentence.holds("Terms", "perhaps 45", AmountEdgesTest::oneMinusInFront);
        Sentence.holds("Terms", "one to nine digits", AmountEdgesTest::oneToNineDigits);
        Sentence.holds("Terms", "perhaps 46 and one to three digits", AmountEdgesTest::oneToThreeDigitsBehindAPoint);
        Sentence.holds("Terms", "it is that, in thousandths", AmountEdgesTest::itIsInThousandths);
        Sentence.holds("Terms", "else it has none", AmountEdgesTest::elseItHasNone);
        Sentence.holds("Terms", "That of a BOX is 1000 times its value.", AmountEdgesTest::aBoxIs0Or1000);
        Sentence.holds("Terms", "AMOUNTS are written so: 45 if below 0, the digits of the whole part", AmountEdgesTest::wholeAmountsAreWritten);
        Sentence.holds("Terms", "and, if there is more, 46 and up to three digits, without 48 at the end", AmountEdgesTest::partsAreWrittenWithout0AtTheEnd);
        Sentence.holds("Terms", "45 if below 0", AmountEdgesTest::zeroIsWrittenWithout45);
    }

    private static void shown() {
        Sentence.holds("Terms", "of a NUMBER that has an AMOUNT and SIGNS that AMOUNT with so many DECIMALS", AmountEdgesTest::soManyDecimals);
        Sentence.holds("Terms", "of a NUMBER that has an AMOUNT and SIGNS that AMOUNT", AmountEdgesTest::withoutSignsNothingIsShown);
        Sentence.holds("Terms", "(the half away from 0", AmountEdgesTest::theHalfAwayFrom0);
        Sentence.holds("Terms", "(the half away from 0", AmountEdgesTest::roundingCarriesThroughTheNines);
        Sentence.holds("Terms", "without a 45 when it is 0 then", AmountEdgesTest::no45WhenItIs0Then);
        Sentence.holds("Terms", "with COMMAS 44 before each three digits of the whole part that have digits before them", AmountEdgesTest::commasBeforeEachThreeDigits);
        Sentence.holds("Terms", "of the whole part that have digits before them", AmountEdgesTest::noCommaBehindTheMinusOrInTheDecimals);
        Sentence.holds("Terms", "of others its SIGNS", AmountEdgesTest::withoutAmountItsSignsAreShown);
    }

    private static void bounds() {
        Sentence.holds("Promise 6", "The least and the greatest AMOUNT that a NUMBER may have", AmountEdgesTest::atTheBoundsAndBeyond);
        Sentence.holds("Promise 6", "(at first 999999999999 either way)", AmountEdgesTest::everyAmountIsWithinTheFirstBounds);
        Sentence.holds("Promise 6", "NoSuchElementException", AmountEdgesTest::boundsOfNoField);
        Sentence.holds("Promise 6", "IllegalArgumentException: its KIND", AmountEdgesTest::boundsOfOtherKinds);
        Sentence.holds("Promise 6", "or they are beyond that", AmountEdgesTest::boundsBeyond);
        Sentence.holds("Promise 6", "or the wrong way round", AmountEdgesTest::boundsTheWrongWayRound);
    }

    private static void validate() {
        Sentence.holds("Promise 13", "1 when all is well", AmountEdgesTest::allIsWellAtFirst);
        Sentence.holds("Promise 13", "2 it is REQUIRED, and has no SIGNS, is 0, or none", AmountEdgesTest::requiredAndEmpty);
        Sentence.holds("Promise 13", "2 it is REQUIRED, and has no SIGNS, is 0, or none", AmountEdgesTest::requiredAndThere);
        Sentence.holds("Promise 13", "3 a NUMBER has no AMOUNT", AmountEdgesTest::aNumberWithoutAmount);
        Sentence.holds("Promise 13", "4 that is below the least", AmountEdgesTest::belowTheLeast);
        Sentence.holds("Promise 13", "5 above the greatest one", AmountEdgesTest::aboveTheGreatest);
        Sentence.holds("Promise 13", "(not asked without SIGNS)", AmountEdgesTest::boundsAreNotAskedWithoutSigns);
        Sentence.holds("Promise 13", "else the first of these", AmountEdgesTest::theFirstOfThese);
        Sentence.holds("Promise 13", "NoSuchElementException", AmountEdgesTest::validateOfNoField);
        Sentence.holds("Promise 13", "IllegalArgumentException: a GROUP.", AmountEdgesTest::validateOfAGroup);
    }

    /** The amount of these signs as it is written, or none. */
    private static String amountOf(String signs) {
        Form x = new Form();
        int n = x.top(Form.NUMBER, 1);
        int empty = x.top(Form.NUMBER, 2);
        int sum = x.top(Form.NUMBER, 3);
        x.tell(n, signs);
        x.f.formula(sum, 0, n, empty);
        x.f.calculate();
        return x.f.failed(-1) == 0 ? x.lineOf("3") : "none";
    }

    private static void dueAmount(String want, String signs) {
        Check.same("the amount of " + signs, want, amountOf(signs));
    }

    private static void withoutSignsItIs0() {
        dueAmount("0", "");
        Form x = new Form();
        int n = x.top(Form.NUMBER, 1);
        x.tell(n, "5");
        x.f.value(n, -1);
        int sum = x.top(Form.NUMBER, 2);
        x.f.formula(sum, 0, n, n);
        x.f.calculate();
        Check.same("also when they are gone", "0", x.lineOf("2"));
    }

    private static void oneMinusInFront() {
        dueAmount("-1", "-1");
        dueAmount("-0.001", "-0.001");
        dueAmount("none", "--1");
        dueAmount("none", "1-");
        dueAmount("none", "1-1");
        dueAmount("none", "-");
        dueAmount("none", "1.-5");
        dueAmount("none", "1.5-");
    }

    private static void oneToNineDigits() {
        dueAmount("none", ".5");
        dueAmount("none", "-.5");
        dueAmount("0", "0");
        dueAmount("9", "9");
        dueAmount("99999999", "99999999");
        dueAmount("999999999", "999999999");
        dueAmount("none", "1000000000");
        dueAmount("none", "0000000001");
        dueAmount("1", "000000001");
        dueAmount("-999999999", "-999999999");
        dueAmount("none", "-1000000000");
        dueAmount("none", "12345678901234");
    }

    private static void oneToThreeDigitsBehindAPoint() {
        dueAmount("none", "1.");
        dueAmount("1.2", "1.2");
        dueAmount("1.23", "1.23");
        dueAmount("1.234", "1.234");
        dueAmount("none", "1.2345");
        dueAmount("none", "1.0000");
        dueAmount("none", "1..2");
        dueAmount("none", "1.2.3");
        dueAmount("none", "1.2.");
        dueAmount("999999999.999", "999999999.999");
        dueAmount("-999999999.999", "-999999999.999");
        dueAmount("none", "999999999.");
    }

    private static void itIsInThousandths() {
        dueAmount("0.1", "0.1");
        dueAmount("0.01", "0.01");
        dueAmount("0.001", "0.001");
        dueAmount("0.1", "0.100");
        dueAmount("7.05", "7.05");
        dueAmount("7.5", "7.5");
        Form x = new Form();
        int n = x.top(Form.NUMBER, 1);
        x.f.bounds(n, 1230, 1230);
        for (String signs : new String[] {"1.23", "1.230", "01.23"}) {
            x.tell(n, signs);
            Check.due(signs + " is 1230", 1, () -> x.f.validate(n));
        }
    }

    private static void elseItHasNone() {
        for (String signs : new String[] {"-", ".", "-.", ".-", "..", "--", "1.", ".1", "-.1", "1-", "1.-", "-1.", "-1.-", "0.0.", "00000000000000"}) {
            dueAmount("none", signs);
            Form x = new Form();
            int n = x.top(Form.NUMBER, 1);
            x.tell(n, signs);
            Check.due("the rule of " + signs, 3, () -> x.f.validate(n));
        }
    }

    private static void aBoxIs0Or1000() {
        Form x = new Form();
        int b = x.top(Form.BOX, 1);
        int empty = x.top(Form.NUMBER, 2);
        int sum = x.top(Form.NUMBER, 3);
        x.f.formula(sum, 0, b, empty);
        x.f.calculate();
        Check.same("of 0", "0", x.lineOf("3"));
        x.f.value(b, 1);
        x.f.calculate();
        Check.same("of 1", "1", x.lineOf("3"));
    }

    private static String written(int thousandths) {
        Form x = new Form();
        int n = x.top(Form.NUMBER, 1);
        x.f.formula(n, 7, thousandths, 0);
        x.f.calculate();
        return x.lineOf("1");
    }

    private static void wholeAmountsAreWritten() {
        int[] whole = {1, -1, 9, 10, -10, 99, 100, 1000, 20000, 999999, 1000000, 2147483, -2147483};
        for (int amount : whole) {
            Check.same("written", "" + amount, written(1000 * amount));
        }
        dueAmount("999999999", "999999999.000");
        dueAmount("-999999999", "-999999999.0");
        dueAmount("100000000", "100000000");
    }

    private static void partsAreWrittenWithout0AtTheEnd() {
        int[] thousandths = {1, 10, 100, 101, 110, 120, 900, 990, 999, 1001, 1010, 1100, -1, -10, -100, -1020, 10500, Integer.MAX_VALUE, Integer.MIN_VALUE};
        String[] want = {"0.001", "0.01", "0.1", "0.101", "0.11", "0.12", "0.9", "0.99", "0.999", "1.001", "1.01", "1.1", "-0.001", "-0.01", "-0.1", "-1.02", "10.5", "2147483.647", "-2147483.648"};
        for (int i = 0; i < want.length; i++) {
            Check.same("written " + thousandths[i], want[i], written(thousandths[i]));
        }
    }

    private static void zeroIsWrittenWithout45() {
        Check.same("written", "0", written(0));
        dueAmount("0", "-0");
        dueAmount("0", "-0.000");
        dueAmount("0", "000000000.000");
    }

    private static void dueShown(String want, String signs, int decimals, int commas) {
        Form x = new Form();
        int n = x.top(Form.NUMBER, 1);
        x.tell(n, signs);
        x.f.set(n, 3, decimals);
        x.f.set(n, 4, commas);
        Check.same(signs + " with " + decimals + " decimals", want, x.shown(n));
        Check.same("its value stays", signs, x.lineOf("1"));
    }

    private static void soManyDecimals() {
        String[] want = {"7", "7.0", "7.00", "7.000"};
        for (int decimals = 0; decimals <= 3; decimals++) {
            dueShown(want[decimals], "7", decimals, 0);
            dueShown(want[decimals], "007.0", decimals, 0);
            dueShown("-" + want[decimals], "-7.00", decimals, 0);
            dueShown(want[decimals].replace('7', '0'), "0", decimals, 0);
        }
        dueShown("123.456", "123.456", 3, 0);
        dueShown("999999999.999", "999999999.999", 3, 0);
    }

    private static void withoutSignsNothingIsShown() {
        for (int decimals = 0; decimals <= 3; decimals++) {
            dueShown("", "", decimals, 0);
            dueShown("", "", decimals, 1);
        }
    }

    private static void theHalfAwayFrom0() {
        dueShown("0", "0.499", 0, 0);
        dueShown("1", "0.5", 0, 0);
        dueShown("-1", "-0.5", 0, 0);
        dueShown("0", "-0.499", 0, 0);
        dueShown("2", "1.500", 0, 0);
        dueShown("3", "2.5", 0, 0);
        dueShown("-3", "-2.5", 0, 0);
        dueShown("-2", "-2.499", 0, 0);
        dueShown("1.0", "1.049", 1, 0);
        dueShown("1.1", "1.05", 1, 0);
        dueShown("-1.1", "-1.05", 1, 0);
        dueShown("-1.0", "-1.049", 1, 0);
        dueShown("1.2", "1.15", 1, 0);
        dueShown("1.00", "1.004", 2, 0);
        dueShown("1.01", "1.005", 2, 0);
        dueShown("-1.01", "-1.005", 2, 0);
        dueShown("-1.00", "-1.004", 2, 0);
        dueShown("1.005", "1.005", 3, 0);
    }

    private static void roundingCarriesThroughTheNines() {
        dueShown("10", "9.5", 0, 0);
        dueShown("-100", "-99.5", 0, 0);
        dueShown("10.0", "9.95", 1, 0);
        dueShown("-10.00", "-9.995", 2, 0);
        dueShown("1000000000", "999999999.5", 0, 0);
        dueShown("-1000000000.0", "-999999999.95", 1, 0);
        dueShown("1000000000.00", "999999999.995", 2, 0);
        dueShown("999999999.99", "999999999.994", 2, 0);
    }

    private static void no45WhenItIs0Then() {
        dueShown("0", "-0", 0, 0);
        dueShown("0.000", "-0", 3, 0);
        dueShown("0.000", "-0.000", 3, 0);
        dueShown("0", "-0.499", 0, 0);
        dueShown("0.0", "-0.049", 1, 0);
        dueShown("-0.1", "-0.05", 1, 0);
        dueShown("0.00", "-0.004", 2, 0);
        dueShown("-0.01", "-0.005", 2, 0);
        dueShown("-0.001", "-0.001", 3, 0);
    }

    private static void commasBeforeEachThreeDigits() {
        dueShown("9", "9", 0, 1);
        dueShown("999", "999", 0, 1);
        dueShown("1,000", "1000", 0, 1);
        dueShown("10,000", "10000", 0, 1);
        dueShown("999,999", "999999", 0, 1);
        dueShown("1,000,000", "1000000", 0, 1);
        dueShown("999,999,999", "999999999", 0, 1);
        dueShown("1,000,000,000", "999999999.5", 0, 1);
        dueShown("1000000000", "999999999.5", 0, 0);
        dueShown("1,000", "999.5", 0, 1);
        dueShown("-1,000,000,000.00", "-999999999.995", 2, 1);
    }

    private static void noCommaBehindTheMinusOrInTheDecimals() {
        dueShown("-100", "-100", 0, 1);
        dueShown("-100,000", "-100000", 0, 1);
        dueShown("-999,999,999.999", "-999999999.999", 3, 1);
        dueShown("0.999", "0.999", 3, 1);
        dueShown("100.000", "100", 3, 1);
        dueShown("12,345.678", "12345.678", 3, 1);
        dueShown("7", "0000007", 0, 1);
    }

    private static void withoutAmountItsSignsAreShown() {
        for (String signs : new String[] {"-", "1.", ".5", "1234567890", "1.2345", "00000000000000", "--1"}) {
            for (int decimals = 0; decimals <= 3; decimals++) {
                dueShown(signs, signs, decimals, 0);
                dueShown(signs, signs, decimals, 1);
            }
        }
    }

    private static long bound(Form x, int field, long least, long most) {
        x.f.bounds(field, least, most);
        return 0;
    }

    private static void dueRule(int want, String signs, long least, long most) {
        Form x = new Form();
        int n = x.top(Form.NUMBER, 1);
        x.tell(n, signs);
        x.f.bounds(n, least, most);
        Check.due(signs + " between " + least + " and " + most, want, () -> x.f.validate(n));
    }

    private static void atTheBoundsAndBeyond() {
        dueRule(1, "-0.002", -2, 3);
        dueRule(4, "-0.003", -2, 3);
        dueRule(1, "0.003", -2, 3);
        dueRule(5, "0.004", -2, 3);
        dueRule(1, "5", 5000, 5000);
        dueRule(4, "4.999", 5000, 5000);
        dueRule(5, "5.001", 5000, 5000);
        Form x = new Form();
        int n = x.top(Form.NUMBER, 1);
        int same = x.top(Form.NUMBER, 1);
        x.tell(n, "5");
        x.f.bounds(n, 6000, 7000);
        Check.due("below", 4, () -> x.f.validate(same));
        x.f.bounds(same, 3000, 4000);
        Check.due("the latest bounds count, by any field", 5, () -> x.f.validate(n));
    }

    private static void everyAmountIsWithinTheFirstBounds() {
        Form x = new Form();
        int n = x.top(Form.NUMBER, 1);
        for (String signs : new String[] {"999999999.999", "-999999999.999", "0"}) {
            x.tell(n, signs);
            Check.due(signs, 1, () -> x.f.validate(n));
        }
    }

    private static void boundsOfNoField() {
        Form x = Form.everyKind();
        Form.dueMissing("bounds", 6, n -> bound(x, n, 0, 0));
    }

    private static void boundsOfOtherKinds() {
        Form x = Form.everyKind();
        for (int kind = Form.GROUP; kind < Form.NUMBER; kind++) {
            int field = kind;
            Check.refused("kind " + kind, Form.ARGUMENT, () -> bound(x, field, 0, 1));
        }
        Check.due("a number", 0, () -> bound(x, Form.NUMBER, 0, 1));
    }

    private static void boundsBeyond() {
        Form x = new Form();
        int n = x.top(Form.NUMBER, 1);
        Check.due("the widest", 0, () -> bound(x, n, -MOST, MOST));
        Check.due("all at the least", 0, () -> bound(x, n, -MOST, -MOST));
        Check.due("all at the greatest", 0, () -> bound(x, n, MOST, MOST));
        for (long far : new long[] {MOST + 1, Long.MAX_VALUE, Long.MAX_VALUE - 1}) {
            Check.refused("the greatest " + far, Form.ARGUMENT, () -> bound(x, n, 0, far));
            Check.refused("both " + far, Form.ARGUMENT, () -> bound(x, n, far, far));
        }
        for (long far : new long[] {-MOST - 1, Long.MIN_VALUE, Long.MIN_VALUE + 1}) {
            Check.refused("the least " + far, Form.ARGUMENT, () -> bound(x, n, far, 0));
            Check.refused("both " + far, Form.ARGUMENT, () -> bound(x, n, far, far));
        }
        Check.refused("both too far", Form.ARGUMENT, () -> bound(x, n, Long.MIN_VALUE, Long.MAX_VALUE));
        x.tell(n, "999999999.998");
        Check.due("the last good ones hold", 4, () -> x.f.validate(n));
    }

    private static void boundsTheWrongWayRound() {
        Form x = new Form();
        int n = x.top(Form.NUMBER, 1);
        Check.due("the same", 0, () -> bound(x, n, 5, 5));
        Check.refused("by one", Form.ARGUMENT, () -> bound(x, n, 6, 5));
        Check.refused("by one below 0", Form.ARGUMENT, () -> bound(x, n, -5, -6));
        Check.refused("by all", Form.ARGUMENT, () -> bound(x, n, MOST, -MOST));
        x.tell(n, "0.005");
        Check.due("the last good ones hold", 1, () -> x.f.validate(n));
        x.tell(n, "0.006");
        Check.due("the last good ones hold", 5, () -> x.f.validate(n));
    }

    private static void allIsWellAtFirst() {
        Form x = Form.everyKind();
        for (int kind = Form.TEXT; kind <= Form.NUMBER; kind++) {
            int field = kind;
            Check.due("kind " + kind, 1, () -> x.f.validate(field));
        }
    }

    private static Form everyKindRequired() {
        Form x = Form.everyKind();
        for (int kind = Form.TEXT; kind <= Form.NUMBER; kind++) {
            x.f.set(kind, 0, 1);
        }
        x.f.option(Form.RADIO, 0);
        x.f.option(Form.CHOICE, 0);
        return x;
    }

    private static void requiredAndEmpty() {
        Form x = everyKindRequired();
        for (int kind = Form.TEXT; kind <= Form.NUMBER; kind++) {
            int field = kind;
            Check.due("kind " + kind, 2, () -> x.f.validate(field));
            x.f.set(field, 0, 0);
            Check.due("not required", 1, () -> x.f.validate(field));
        }
    }

    private static void requiredAndThere() {
        Form x = everyKindRequired();
        x.tell(Form.TEXT, " ");
        x.f.value(Form.BOX, 1);
        x.f.value(Form.RADIO, 0);
        x.f.value(Form.CHOICE, 0);
        x.tell(Form.NUMBER, "0");
        for (int kind = Form.TEXT; kind <= Form.NUMBER; kind++) {
            int field = kind;
            Check.due("kind " + kind, 1, () -> x.f.validate(field));
        }
        x.f.value(Form.TEXT, -1);
        x.f.value(Form.BOX, 0);
        x.f.set(Form.RADIO, 2, 1);
        x.f.value(Form.RADIO, -1);
        x.f.value(Form.CHOICE, -1);
        x.f.value(Form.NUMBER, -1);
        for (int kind = Form.TEXT; kind <= Form.NUMBER; kind++) {
            int field = kind;
            Check.due("kind " + kind + " empty again", 2, () -> x.f.validate(field));
        }
    }

    private static void aNumberWithoutAmount() {
        Form x = Form.everyKind();
        x.tell(Form.NUMBER, "1.");
        Check.due("1.", 3, () -> x.f.validate(Form.NUMBER));
        x.f.value(Form.NUMBER, '5');
        Check.due("1.5", 1, () -> x.f.validate(Form.NUMBER));
        x.tell(Form.TEXT, "1.");
        Check.due("a text needs no amount", 1, () -> x.f.validate(Form.TEXT));
    }

    private static void belowTheLeast() {
        dueRule(1, "0", 0, 0);
        dueRule(4, "-0.001", 0, 0);
        dueRule(4, "0", 1, 1);
        dueRule(1, "-999999999.999", -MOST, -MOST);
        dueRule(4, "-999999999.999", -MOST + 1, 0);
    }

    private static void aboveTheGreatest() {
        dueRule(5, "0.001", 0, 0);
        dueRule(5, "0", -1, -1);
        dueRule(1, "999999999.999", MOST, MOST);
        dueRule(5, "999999999.999", 0, MOST - 1);
    }

    private static void boundsAreNotAskedWithoutSigns() {
        dueRule(1, "", 1, 2);
        dueRule(1, "", -2, -1);
        dueRule(4, "0", 1, 2);
        dueRule(5, "0", -2, -1);
    }

    private static void theFirstOfThese() {
        Form x = new Form();
        int n = x.top(Form.NUMBER, 1);
        x.f.set(n, 0, 1);
        x.f.bounds(n, 1000, 2000);
        Check.due("required before the bounds", 2, () -> x.f.validate(n));
        x.tell(n, "-");
        Check.due("no amount before the bounds", 3, () -> x.f.validate(n));
        x.tell(n, "0");
        Check.due("0 is there, but below", 4, () -> x.f.validate(n));
        x.tell(n, "2.001");
        Check.due("above", 5, () -> x.f.validate(n));
        x.tell(n, "2");
        Check.due("well", 1, () -> x.f.validate(n));
    }

    private static void validateOfNoField() {
        Form x = Form.everyKind();
        Form.dueMissing("validate", 6, n -> x.f.validate(n));
    }

    private static void validateOfAGroup() {
        Form x = new Form();
        int g = x.top(Form.GROUP, 1);
        Check.refused("a group", Form.ARGUMENT, () -> x.f.validate(g));
    }
}
