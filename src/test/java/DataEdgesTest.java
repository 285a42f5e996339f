/** The edges of what is written and read: THE DATA, promises 18 to 20. */
public final class DataEdgesTest {
    public static void main(String[] args) {
        data();
        writeAndAt();
        read();
        linesThatAreNoGood();
        valuesThatCouldBeTold();
        refused();
        Check.end();
    }

    private static void data() {
        Sentence.holds("Terms", "THE DATA: of each MASTER, by numbers", DataEdgesTest::oneLineOfEachMasterByNumbers);
        Sentence.holds("Terms", "the FULL NAME (numbers, 46 between them), 61", DataEdgesTest::fullNamesAreNumbersWith46Between);
        Sentence.holds("Terms", "its VALUE (SIGNS; 48 or 49; the CODE's digits, or nothing), 10", DataEdgesTest::emptyValues);
        Sentence.holds("Terms", "its VALUE (SIGNS; 48 or 49; the CODE's digits, or nothing), 10", DataEdgesTest::fullValues);
    }

    private static void writeAndAt() {
        Sentence.holds("Promise 18", "THE DATA are written: how many bytes.", DataEdgesTest::noBytesOfNoMasters);
        Sentence.holds("Promise 18", "THE DATA are written: how many bytes.", DataEdgesTest::theMostBytes);
        Sentence.holds("Promise 19", "A byte of the latest DATA, 0 .. 255.", DataEdgesTest::theLatestDataStay);
        Sentence.holds("Promise 19", "A byte of the latest DATA, 0 .. 255.", DataEdgesTest::shorterDataTakeThePlaceOfLonger);
        Sentence.holds("Promise 19", "ArrayIndexOutOfBoundsException.", DataEdgesTest::noSuchByte);
    }

    private static void read() {
        Sentence.holds("Promise 20", "A byte 0 .. 255 behind those that are to be read: how many", DataEdgesTest::everyByteMayBeRead);
        Sentence.holds("Promise 20", "or (-1) they are read, and are gone", DataEdgesTest::bytesAreGoneWhenRead);
        Sentence.holds("Promise 20", "how many lines there were", DataEdgesTest::linesAreCounted);
        Sentence.holds("Promise 20", "and all VALUES are as they tell, one line behind the other", DataEdgesTest::theLastLineOfANameCounts);
        Sentence.holds("Promise 20", "and all VALUES are as they tell, one line behind the other", DataEdgesTest::valuesOfEveryKindAreTold);
    }

    private static void linesThatAreNoGood() {
        Sentence.holds("Promise 20", "or -1 less the first line (from 0 on) that is no good", DataEdgesTest::theFirstBadLineIsTold);
        Sentence.holds("Promise 20", "no FULL NAME of a MASTER that is not LOCKED", DataEdgesTest::noSuchFullName);
        Sentence.holds("Promise 20", "no FULL NAME of a MASTER that is not LOCKED", DataEdgesTest::theNameOfAGroup);
        Sentence.holds("Promise 20", "that is not LOCKED", DataEdgesTest::lockedMasters);
        Sentence.holds("Promise 20", "with 61", DataEdgesTest::linesWithout61);
        Sentence.holds("Promise 20", "with 61", DataEdgesTest::theFirst61EndsTheName);
        Sentence.holds("Promise 20", "and 10", DataEdgesTest::linesWithout10);
        Sentence.holds("Promise 20", "and 10", DataEdgesTest::emptyLines);
        Sentence.holds("Promise 20", "(FULL NAMES and CODES just as write() writes them)", DataEdgesTest::fullNamesJustAsWritten);
        Sentence.holds("Promise 20", "(FULL NAMES and CODES just as write() writes them)", DataEdgesTest::codesJustAsWritten);
        Sentence.holds("Promise 20", "then no VALUE changes (the bytes are gone)", DataEdgesTest::noValueChangesThen);
        Sentence.holds("Promise 20", "then no VALUE changes (the bytes are gone)", DataEdgesTest::badBytesAreGone);
    }

    private static void valuesThatCouldBeTold() {
        Sentence.holds("Promise 20", "a VALUE that value() could tell it now", DataEdgesTest::signsOfATextThatAreRead);
        Sentence.holds("Promise 20", "a VALUE that value() could tell it now", DataEdgesTest::signsOfANumberThatAreRead);
        Sentence.holds("Promise 20", "a VALUE that value() could tell it now", DataEdgesTest::thirtyAndFourteenSignsAreRead);
        Sentence.holds("Promise 20", "a VALUE that value() could tell it now", DataEdgesTest::asManySignsAsCellsAreRead);
        Sentence.holds("Promise 20", "a VALUE that value() could tell it now", DataEdgesTest::valuesOfABoxThatAreRead);
        Sentence.holds("Promise 20", "a VALUE that value() could tell it now", DataEdgesTest::codesThatAreRead);
        Sentence.holds("Promise 20", "a VALUE that value() could tell it now", DataEdgesTest::noneOfAChoiceOrRadioThatIsRead);
        Sentence.holds("Promise 20", "before any of these lines is taken", DataEdgesTest::aRadioIsLookedAtBeforeAnyLine);
        Sentence.holds("Promise 20", "(also of one that is FLAT)", DataEdgesTest::flatOnesAreReadToo);
    }

    private static void refused() {
        Sentence.holds("Promise 20", "IllegalArgumentException", DataEdgesTest::noSuchByteToRead);
        Sentence.holds("Promise 20", "UnsupportedOperationException when there are 3000", DataEdgesTest::theThreeThousandAndFirstByte);
        Sentence.holds("Promise 20", "UnsupportedOperationException when there are 3000", DataEdgesTest::threeThousandBytesMayBeRead);
        Sentence.holds("What it is", "An object is used for at most 512 calls after it has been made", DataEdgesTest::theLastOf512Calls);
    }

    private static void oneLineOfEachMasterByNumbers() {
        Form x = new Form();
        int g = x.top(Form.GROUP, 9);
        x.top(Form.BOX, 8);
        int inner = x.f.field(g, Form.GROUP, 1);
        x.f.field(inner, Form.BOX, 5);
        x.top(Form.BOX, 3);
        x.f.field(g, Form.BOX, 2);
        x.top(Form.BOX, 8);
        x.f.field(inner, Form.BOX, 5);
        x.dueData("8=0\n9.1.5=0\n3=0\n9.2=0\n");
    }

    private static void fullNamesAreNumbersWith46Between() {
        int[] names = {0, 1, 9, 10, 99, 100, 101, 990, 999};
        Form x = new Form();
        int parent = -1;
        StringBuilder want = new StringBuilder();
        for (int name : names) {
            parent = x.f.field(parent, Form.GROUP, name);
            want.append(name).append('.');
        }
        x.f.field(parent, Form.BOX, 0);
        x.dueData(want + "0=0\n");
        Form y = new Form();
        StringBuilder lines = new StringBuilder();
        for (int name : names) {
            y.top(Form.BOX, name);
            lines.append(name).append("=0\n");
        }
        y.dueData(lines.toString());
    }

    private static void emptyValues() {
        Form x = Form.everyKind();
        x.dueData("1=\n2=0\n3=\n4=\n5=\n");
        x.f.option(Form.RADIO, 0);
        x.f.option(Form.CHOICE, 0);
        x.dueData("1=\n2=0\n3=\n4=\n5=\n");
    }

    private static void fullValues() {
        Form x = Form.everyKind();
        x.tell(Form.TEXT, " =.~" + "z".repeat(26));
        x.f.value(Form.BOX, 1);
        x.f.value(Form.RADIO, x.f.option(Form.RADIO, 99999));
        x.f.value(Form.CHOICE, x.f.option(Form.CHOICE, 0));
        x.tell(Form.NUMBER, "-0000000.00-..");
        x.dueData("1= =.~" + "z".repeat(26) + "\n2=1\n3=99999\n4=0\n5=-0000000.00-..\n");
        x.f.value(Form.RADIO, x.f.option(Form.RADIO, 10000));
        x.tell(Form.NUMBER, "1.50");
        x.f.set(Form.NUMBER, 3, 0);
        x.f.value(Form.CHOICE, -1);
        x.dueData("1= =.~" + "z".repeat(26) + "\n2=1\n3=10000\n4=\n5=1.50\n");
    }

    private static void noBytesOfNoMasters() {
        Form x = new Form();
        Check.due("nothing", 0, () -> x.f.write());
        x.top(Form.GROUP, 1);
        Check.due("a group", 0, () -> x.f.write());
        x.top(Form.BOX, 2);
        Check.due("a box", 4, () -> x.f.write());
    }

    /** So many groups in one another and texts in the last: the longest data that each number of groups has. */
    private static void theMostBytes() {
        for (int groups = 0; groups < 40; groups++) {
            Form x = new Form();
            int parent = -1;
            for (int i = 0; i < groups; i++) {
                parent = x.f.field(parent, Form.GROUP, 999);
            }
            StringBuilder want = new StringBuilder();
            for (int i = groups; i < 40; i++) {
                int t = x.f.field(parent, Form.TEXT, 100 + i);
                x.tell(t, "~".repeat(30));
                want.append("999.".repeat(groups)).append(100 + i).append('=').append("~".repeat(30)).append('\n');
            }
            Check.due("bytes below " + groups + " groups", want.length(), () -> x.f.write());
            x.dueData(want.toString());
            Check.refused("no more", Form.ARRAY_INDEX, () -> x.f.at(want.length()));
        }
    }

    private static void theLatestDataStay() {
        Form x = new Form();
        int t = x.top(Form.TEXT, 1);
        x.tell(t, "~");
        x.f.write();
        x.f.value(t, -1);
        x.top(Form.BOX, 2);
        x.dueRead(1, "1= \n");
        Check.due("as it was written", '~', () -> x.f.at(2));
        Check.due("its end", 10, () -> x.f.at(3));
        Check.refused("no more", Form.ARRAY_INDEX, () -> x.f.at(4));
        x.f.write();
        Check.due("as it is written now", ' ', () -> x.f.at(2));
        Check.due("and more", '2', () -> x.f.at(4));
    }

    private static void shorterDataTakeThePlaceOfLonger() {
        Form x = new Form();
        int t = x.top(Form.TEXT, 1);
        x.tell(t, "abc");
        Check.due("longer", 6, () -> x.f.write());
        x.f.value(t, -1);
        Check.due("shorter", 3, () -> x.f.write());
        Check.due("its end", 10, () -> x.f.at(2));
        Check.refused("no more", Form.ARRAY_INDEX, () -> x.f.at(3));
    }

    private static void noSuchByte() {
        Form x = new Form();
        x.top(Form.BOX, 1);
        for (int i : new int[] {-1, 0, 1, Integer.MIN_VALUE, Integer.MAX_VALUE}) {
            Check.refused("byte " + i + " before any", Form.ARRAY_INDEX, () -> x.f.at(i));
        }
        x.f.write();
        for (int i : new int[] {-1, -2, 4, 5, 2399, 2400, 3000, Integer.MIN_VALUE, Integer.MAX_VALUE}) {
            Check.refused("byte " + i, Form.ARRAY_INDEX, () -> x.f.at(i));
        }
        Check.due("the first", '1', () -> x.f.at(0));
        Check.due("the last", 10, () -> x.f.at(3));
    }

    private static void everyByteMayBeRead() {
        Form x = new Form();
        for (int c = 0; c <= 255; c++) {
            int sent = c;
            Check.due("byte " + sent, sent + 1, () -> x.f.read(sent));
        }
        Check.due("no good", -1, () -> x.f.read(-1));
    }

    private static void bytesAreGoneWhenRead() {
        Form x = new Form();
        x.top(Form.TEXT, 1);
        x.dueRead(1, "1=a\n");
        Check.due("no lines now", 0, () -> x.f.read(-1));
        Check.due("the first byte", 1, () -> x.f.read('1'));
        Check.due("the second byte", 2, () -> x.f.read('='));
        Check.due("the third byte", 3, () -> x.f.read('\n'));
        Check.due("one line", 1, () -> x.f.read(-1));
        x.dueData("1=\n");
    }

    private static void linesAreCounted() {
        Form x = new Form();
        x.top(Form.TEXT, 1);
        x.dueRead(0, "");
        x.dueRead(1, "1=\n");
        x.dueRead(2, "1=\n1=a\n");
        x.dueRead(100, "1=\n".repeat(100));
    }

    private static void theLastLineOfANameCounts() {
        Form x = Form.everyKind();
        x.f.option(Form.RADIO, 1);
        x.f.option(Form.RADIO, 2);
        x.f.option(Form.CHOICE, 1);
        x.dueRead(10, "1=abc\n1=d\n2=1\n2=0\n3=1\n3=2\n4=1\n4=\n5=12\n5=\n");
        x.dueData("1=d\n2=0\n3=2\n4=\n5=\n");
        x.dueRead(3, "1=" + "a".repeat(30) + "\n2=1\n1=" + "b".repeat(30) + "\n");
        x.dueData("1=" + "b".repeat(30) + "\n2=1\n3=2\n4=\n5=\n");
    }

    private static void valuesOfEveryKindAreTold() {
        Form x = Form.everyKind();
        x.f.option(Form.RADIO, 0);
        x.f.option(Form.CHOICE, 5);
        x.f.option(Form.CHOICE, 99999);
        x.dueRead(5, "5=-.\n4=99999\n3=0\n2=1\n1= \n");
        x.dueData("1= \n2=1\n3=0\n4=99999\n5=-.\n");
        x.dueShown(" ", Form.TEXT);
        x.dueShown("X", Form.BOX);
        x.dueShown("0", Form.RADIO);
        x.dueShown("99999", Form.CHOICE);
        x.dueShown("-.", Form.NUMBER);
        x.dueRead(4, "1=\n2=0\n4=\n5=\n");
        x.dueData("1=\n2=0\n3=0\n4=\n5=\n");
    }

    private static void theFirstBadLineIsTold() {
        Form x = new Form();
        x.top(Form.TEXT, 1);
        for (int good = 0; good < 5; good++) {
            x.dueRead(-1 - good, "1=a\n".repeat(good) + "bad\n" + "1=a\n");
            x.dueRead(-1 - good, "1=a\n".repeat(good) + "bad\nworse\n");
            x.dueRead(-1 - good, "1=a\n".repeat(good) + "\n");
            x.dueRead(-1 - good, "1=a\n".repeat(good) + "1=a");
        }
        x.dueRead(-101, "1=\n".repeat(100) + "2=\n");
    }

    private static void noSuchFullName() {
        Form x = new Form();
        int g = x.top(Form.GROUP, 7);
        x.f.field(g, Form.TEXT, 1);
        x.top(Form.TEXT, 2);
        for (String name : new String[] {"", "0", "1", "3", "7", "7.2", "7.1.1", "2.1", "7.7.1", "1.7", "71", "1000", "7.1000", "4294967298"}) {
            x.dueRead(-1, name + "=\n");
        }
        x.dueRead(2, "7.1=\n2=\n");
    }

    private static void theNameOfAGroup() {
        Form x = new Form();
        int g = x.top(Form.GROUP, 7);
        x.f.field(g, Form.GROUP, 8);
        x.dueRead(-1, "7=\n");
        x.dueRead(-1, "7.8=\n");
        x.dueRead(-1, "7.8=0\n");
    }

    private static void lockedMasters() {
        Form x = Form.everyKind();
        x.f.option(Form.RADIO, 3);
        x.f.option(Form.CHOICE, 4);
        String[] lines = {"", "1=a\n", "2=1\n", "3=3\n", "4=4\n", "5=5\n"};
        for (int kind = Form.TEXT; kind <= Form.NUMBER; kind++) {
            x.f.lock(kind, true);
            x.dueRead(-1, lines[kind]);
            x.dueRead(-2, lines[kind == Form.NUMBER ? Form.TEXT : kind + 1] + lines[kind]);
            x.f.lock(kind, false);
        }
        x.dueData("1=\n2=0\n3=\n4=\n5=\n");
        for (int kind = Form.TEXT; kind <= Form.NUMBER; kind++) {
            x.dueRead(1, lines[kind]);
        }
        int same = x.top(Form.TEXT, Form.TEXT);
        x.f.lock(same, true);
        x.dueRead(-1, "1=b\n");
        x.dueData("1=a\n2=1\n3=3\n4=4\n5=5\n");
    }

    private static void linesWithout61() {
        Form x = new Form();
        x.top(Form.TEXT, 1);
        x.dueRead(-1, "1\n");
        x.dueRead(-1, "1 a\n");
        x.dueRead(-1, "1:a\n");
        x.dueRead(-1, "1\n=a\n");
        x.dueRead(-1, "a\n1=a\n");
        x.dueRead(1, "1=\n");
    }

    private static void theFirst61EndsTheName() {
        Form x = new Form();
        x.top(Form.TEXT, 1);
        x.dueRead(1, "1==\n");
        x.dueShown("=", 0);
        x.dueRead(1, "1=1=a\n");
        x.dueShown("1=a", 0);
        x.dueRead(-1, "=1=a\n");
    }

    private static void linesWithout10() {
        Form x = new Form();
        x.top(Form.TEXT, 1);
        for (String line : new String[] {"1=a", "1=", "1", "=", "x"}) {
            x.dueRead(-1, line);
            x.dueRead(-2, "1=b\n" + line);
        }
        x.dueRead(-1, "1=a\r\n");
        x.dueData("1=\n");
    }

    private static void emptyLines() {
        Form x = new Form();
        x.top(Form.TEXT, 1);
        x.dueRead(-1, "\n");
        x.dueRead(-1, "\n1=a\n");
        x.dueRead(-2, "1=a\n\n");
        x.dueRead(-2, "1=a\n\n1=a\n");
        x.dueData("1=\n");
    }

    private static void fullNamesJustAsWritten() {
        Form x = new Form();
        int g = x.top(Form.GROUP, 0);
        x.f.field(g, Form.BOX, 10);
        int h = x.top(Form.GROUP, 5);
        x.f.field(h, Form.BOX, 0);
        for (String name : new String[] {"00.10", "0.010", ".10", "0.", "0..10", "0.10.", ".0.10", " 0.10", "0.10 ", "0.1", "0.100", "-0.10", "+0.10", "0,10", "5", "5.", "5.00", "5.-0", "05.0", "0.:", "0.1:", "0.1/", "/:.10"}) {
            x.dueRead(-1, name + "=1\n");
        }
        x.dueData("0.10=0\n5.0=0\n");
        x.dueRead(2, "0.10=1\n5.0=1\n");
    }

    private static void codesJustAsWritten() {
        for (int kind : new int[] {Form.RADIO, Form.CHOICE}) {
            Form x = new Form();
            int field = x.top(kind, 1);
            x.f.option(field, 0);
            x.f.option(field, 7);
            x.f.option(field, 10);
            x.f.option(field, 99999);
            for (String code : new String[] {"00", "07", "010", "099999", " 7", "7 ", "+7", "-0", "7.", ":", "1&", "999:/", "1", "1 0", "100000", "999990", "4294967303", "18446744073709551623"}) {
                x.dueRead(-1, "1=" + code + "\n");
            }
            for (String code : new String[] {"0", "7", "10", "99999"}) {
                x.dueRead(1, "1=" + code + "\n");
                x.dueShown(code, field);
            }
        }
    }

    private static void noValueChangesThen() {
        Form x = Form.everyKind();
        x.f.option(Form.RADIO, 3);
        x.f.option(Form.CHOICE, 4);
        String good = "1=a\n2=1\n3=3\n4=4\n5=5\n";
        x.dueRead(-6, good + "1");
        x.dueRead(-6, good + "1=\u007f\n");
        x.dueRead(-1, "9=\n" + good);
        x.dueRead(-2, "1=a\n2=2\n3=3\n");
        x.dueData("1=\n2=0\n3=\n4=\n5=\n");
        x.dueRead(5, good);
        x.dueData(good);
    }

    private static void badBytesAreGone() {
        Form x = new Form();
        x.top(Form.TEXT, 1);
        x.dueRead(-2, "1=a\nbad\n1=b\n");
        Check.due("no lines now", 0, () -> x.f.read(-1));
        Check.due("the first byte", 1, () -> x.f.read('1'));
        x.dueRead(1, "=c\n");
        x.dueData("1=c\n");
    }

    private static void signsOfATextThatAreRead() {
        for (int c = 0; c <= 255; c++) {
            Form x = new Form();
            x.top(Form.TEXT, 1);
            x.dueRead(c >= 32 && c <= 126 ? 1 : c == 10 ? -2 : -1, "1=" + (char) c + "\n");
            x.dueData(c >= 32 && c <= 126 ? "1=" + (char) c + "\n" : "1=\n");
        }
    }

    private static void signsOfANumberThatAreRead() {
        for (int c = 0; c <= 255; c++) {
            Form x = new Form();
            x.top(Form.NUMBER, 1);
            boolean good = c >= 48 && c <= 57 || c == 45 || c == 46;
            x.dueRead(good ? 1 : c == 10 ? -2 : -1, "1=" + (char) c + "\n");
            x.dueData(good ? "1=" + (char) c + "\n" : "1=\n");
        }
        Form y = new Form();
        y.top(Form.NUMBER, 1);
        y.dueRead(1, "1=--..1.2345\n");
        y.dueShown("--..1.2345", 0);
    }

    private static void thirtyAndFourteenSignsAreRead() {
        Form x = Form.everyKind();
        x.dueRead(-1, "1=" + "a".repeat(31) + "\n");
        x.dueRead(-1, "5=" + "1".repeat(15) + "\n");
        x.dueData("1=\n2=0\n3=\n4=\n5=\n");
        x.dueRead(2, "1=" + "a".repeat(30) + "\n5=" + "1".repeat(14) + "\n");
        x.dueData("1=" + "a".repeat(30) + "\n2=0\n3=\n4=\n5=" + "1".repeat(14) + "\n");
        x.dueRead(2, "1=" + "b".repeat(30) + "\n5=" + "2".repeat(14) + "\n");
        x.dueData("1=" + "b".repeat(30) + "\n2=0\n3=\n4=\n5=" + "2".repeat(14) + "\n");
    }

    private static void asManySignsAsCellsAreRead() {
        for (int cells : new int[] {1, 2, 29, 30}) {
            Form x = new Form();
            int t = x.top(Form.TEXT, 1);
            x.f.set(t, 1, cells);
            x.dueRead(1, "1=" + "a".repeat(cells) + "\n");
            x.dueRead(-1, "1=" + "b".repeat(cells + 1) + "\n");
            x.dueShown("a".repeat(cells), t);
            x.dueRead(1, "1=\n");
            x.dueShown("", t);
        }
    }

    private static void valuesOfABoxThatAreRead() {
        Form x = new Form();
        x.top(Form.BOX, 1);
        for (String value : new String[] {"", "2", "/", "00", "01", "10", "11", " ", "1 ", " 1", "X", "-1"}) {
            x.dueRead(-1, "1=" + value + "\n");
        }
        x.dueData("1=0\n");
        x.dueRead(1, "1=1\n");
        x.dueData("1=1\n");
        x.dueRead(1, "1=0\n");
        x.dueData("1=0\n");
    }

    private static void codesThatAreRead() {
        for (int kind : new int[] {Form.RADIO, Form.CHOICE}) {
            Form x = new Form();
            int field = x.top(kind, 1);
            x.dueRead(-1, "1=0\n");
            for (int i = 0; i < 12; i++) {
                x.f.option(field, 500 + i);
            }
            for (int i = 0; i < 12; i++) {
                x.dueRead(1, "1=" + (500 + i) + "\n");
                x.dueShown("" + (500 + i), field);
            }
            for (String value : new String[] {"0", "11", "499", "512", "x", "50", "5000"}) {
                x.dueRead(-1, "1=" + value + "\n");
            }
            x.dueShown("511", field);
        }
    }

    private static void noneOfAChoiceOrRadioThatIsRead() {
        Form x = Form.everyKind();
        x.f.option(Form.RADIO, 3);
        x.f.option(Form.CHOICE, 4);
        x.dueRead(2, "3=\n4=\n");
        x.dueRead(2, "3=3\n4=4\n");
        x.dueRead(1, "4=\n");
        x.dueShown("", Form.CHOICE);
        x.dueRead(-1, "3=\n");
        x.dueShown("3", Form.RADIO);
        x.f.set(Form.RADIO, 2, 1);
        x.dueRead(1, "3=\n");
        x.dueShown("", Form.RADIO);
    }

    private static void aRadioIsLookedAtBeforeAnyLine() {
        Form x = new Form();
        int r = x.top(Form.RADIO, 1);
        x.f.option(r, 3);
        x.f.option(r, 4);
        x.dueRead(2, "1=3\n1=\n");
        x.dueShown("", r);
        x.dueRead(3, "1=3\n1=\n1=4\n");
        x.dueShown("4", r);
        x.dueRead(-2, "1=3\n1=\n");
        x.dueRead(-1, "1=\n1=3\n");
        x.dueShown("4", r);
    }

    private static void flatOnesAreReadToo() {
        Form x = Form.everyKind();
        x.f.option(Form.RADIO, 3);
        x.f.option(Form.CHOICE, 4);
        for (int kind = Form.TEXT; kind <= Form.NUMBER; kind++) {
            x.f.flatten(kind);
        }
        x.dueRead(5, "1=a\n2=1\n3=3\n4=4\n5=5\n");
        x.dueData("1=a\n2=1\n3=3\n4=4\n5=5\n");
        x.f.lock(Form.TEXT, true);
        x.dueRead(-1, "1=b\n");
    }

    private static void noSuchByteToRead() {
        Form x = new Form();
        for (int c : new int[] {-2, 256, 257, Integer.MIN_VALUE, Integer.MAX_VALUE}) {
            Check.refused("byte " + c, Form.ARGUMENT, () -> x.f.read(c));
        }
        Check.due("none came", 1, () -> x.f.read(255));
        Check.due("nor of it", 2, () -> x.f.read(0));
    }

    private static void theThreeThousandAndFirstByte() {
        Form x = new Form();
        for (int i = 1; i <= 3000; i++) {
            int count = i;
            Check.due("byte", count, () -> x.f.read('1'));
        }
        Check.refused("one more", Form.FULL, () -> x.f.read('1'));
        Check.refused("also 255", Form.FULL, () -> x.f.read(255));
        Check.refused("also 0", Form.FULL, () -> x.f.read(0));
    }

    private static void theLastOf512Calls() {
        Form x = new Form();
        x.top(Form.TEXT, 1);
        x.send("1=\n".repeat(168) + "1=abc\n");
        Check.due("call 512", 169, () -> x.f.read(-1));
        Form y = new Form();
        y.top(Form.TEXT, 1);
        for (int i = 0; i < 255; i++) {
            Check.due("a sign", 1, () -> y.f.value(0, 'a'));
            Check.due("gone", 0, () -> y.f.value(0, -1));
        }
        Check.due("call 512", 1, () -> y.f.value(0, 'b'));
    }

    private static void threeThousandBytesMayBeRead() {
        Form x = new Form();
        x.top(Form.TEXT, 1);
        x.send("1=\n".repeat(999) + "1=");
        Check.due("the last", 3000, () -> x.f.read('\n'));
        Check.refused("one more", Form.FULL, () -> x.f.read('\n'));
        Check.due("all are read", 1000, () -> x.f.read(-1));
        x.dueRead(1, "1=b\n");
        x.dueData("1=b\n");
    }
}
