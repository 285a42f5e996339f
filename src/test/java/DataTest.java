/** Promises 18 to 20: values written and read. */
public final class DataTest {
    public static void main(String[] args) {
        dataByKind();
        fullNamesInData();
        bytesStayAsWritten();
        theLongestData();
        readCounts();
        readTakesEveryKind();
        readTakesTheLastLine();
        namesAreAsWritten();
        linesThatAreNoGood();
        codesOfEveryLength();
        radiosAreReadAsTheyAreNow();
        lockedAndFlat();
        cellsBoundWhatIsRead();
        writtenIsReadAgain();
        Check.end();
    }

    private static void dataByKind() {
        Form x = new Form();
        x.top(Form.TEXT, 1);
        x.top(Form.BOX, 2);
        x.top(Form.RADIO, 3);
        x.top(Form.CHOICE, 4);
        x.top(Form.NUMBER, 5);
        x.dueData("1=\n2=0\n3=\n4=\n5=\n");
        x.tell(0, "a=b.c ~");
        x.f.value(1, 1);
        x.f.option(2, 0);
        x.f.value(2, 0);
        x.f.option(3, 7);
        x.f.option(3, 99999);
        x.f.value(3, 1);
        x.tell(4, "-01.50");
        x.dueData("1=a=b.c ~\n2=1\n3=0\n4=99999\n5=-01.50\n");
    }

    private static void fullNamesInData() {
        Form x = new Form();
        int g = x.top(Form.GROUP, 0);
        int h = x.f.field(g, Form.GROUP, 999);
        x.f.field(h, Form.BOX, 10);
        x.f.field(g, Form.BOX, 100);
        x.f.field(h, Form.BOX, 10);
        x.top(Form.BOX, 10);
        x.dueData("0.999.10=0\n0.100=0\n10=0\n");
    }

    private static void bytesStayAsWritten() {
        Form x = new Form();
        int b = x.top(Form.BOX, 5);
        Check.due("bytes", 4, () -> x.f.write());
        x.f.value(b, 1);
        x.top(Form.TEXT, 6);
        Check.due("as written", 48, () -> x.f.at(2));
        Check.due("the last", 10, () -> x.f.at(3));
        Check.refused("behind", Form.ARRAY_INDEX, () -> x.f.at(4));
        Check.refused("before", Form.ARRAY_INDEX, () -> x.f.at(-1));
        Check.refused("far", Form.ARRAY_INDEX, () -> x.f.at(Integer.MAX_VALUE));
    }

    private static void theLongestData() {
        for (int groups = 0; groups < 40; groups++) {
            Form x = new Form();
            int parent = -1;
            StringBuilder above = new StringBuilder();
            for (int i = 0; i < groups; i++) {
                parent = x.f.field(parent, Form.GROUP, 999);
                above.append("999.");
            }
            StringBuilder want = new StringBuilder();
            for (int i = groups; i < 40; i++) {
                int field = x.f.field(parent, Form.TEXT, 900 + i);
                x.tell(field, "#".repeat(30));
                want.append(above).append(900 + i).append('=').append("#".repeat(30)).append('\n');
            }
            x.dueData(want.toString());
            x.dueRead(40 - groups, want.toString());
        }
    }

    private static void readCounts() {
        Form x = new Form();
        x.top(Form.TEXT, 1);
        Check.refused("256", Form.ARGUMENT, () -> x.f.read(256));
        Check.refused("-2", Form.ARGUMENT, () -> x.f.read(-2));
        for (int i = 1; i <= 3000; i++) {
            int n = i;
            Check.due("byte", n, () -> x.f.read(n % 256));
        }
        Check.refused("3001", Form.FULL, () -> x.f.read(0));
        Check.refused("3001, bad", Form.ARGUMENT, () -> x.f.read(256));
        Check.due("no good", -1, () -> x.f.read(-1));
        Check.due("gone", 0, () -> x.f.read(-1));
        Check.due("the first again", 1, () -> x.f.read(255));
    }

    private static Form everyKind() {
        Form x = new Form();
        int g = x.top(Form.GROUP, 0);
        x.f.field(g, Form.TEXT, 1);
        x.f.field(g, Form.BOX, 2);
        x.f.field(g, Form.RADIO, 3);
        x.f.field(g, Form.CHOICE, 4);
        x.f.field(g, Form.NUMBER, 5);
        x.f.option(3, 70);
        x.f.option(3, 7);
        x.f.option(4, 0);
        return x;
    }

    private static void readTakesEveryKind() {
        Form x = everyKind();
        x.dueRead(5, "0.5=1.-\n0.1=x=y\n0.3=7\n0.4=0\n0.2=1\n");
        x.dueData("0.1=x=y\n0.2=1\n0.3=7\n0.4=0\n0.5=1.-\n");
        x.dueRead(4, "0.5=\n0.1=\n0.4=\n0.2=0\n");
        x.dueData("0.1=\n0.2=0\n0.3=7\n0.4=\n0.5=\n");
    }

    private static void readTakesTheLastLine() {
        Form x = everyKind();
        x.dueRead(3, "0.1=long\n0.1=b\n0.2=1\n");
        x.dueData("0.1=b\n0.2=1\n0.3=\n0.4=\n0.5=\n");
        x.dueRead(-3, "0.1=c\n0.1=d\n0.1=\u001f\n0.1=e\n");
        x.dueData("0.1=b\n0.2=1\n0.3=\n0.4=\n0.5=\n");
    }

    private static void namesAreAsWritten() {
        Form x = everyKind();
        String[] bad = {"", "0", "1", "0.", ".1", "0.1.", "00.1", "0.01", "0..1", " 0.1", "0.1 ", "0.6", "0.1.1", "-0.1", "0.100000", "0.4294967297", "0/1"};
        for (String name : bad) {
            x.dueRead(-1, name + "=\n");
            x.dueRead(-2, "0.1=\n" + name + "=\n0.1=\n");
        }
        x.dueRead(1, "0.1=\n");
    }

    private static void linesThatAreNoGood() {
        Form x = everyKind();
        String[] bad = {
            "\n", "=\n", "0.1\n", "0.1=a", "0.1", "0", "0.1=\n\n", "0=\n", "0.2=\n", "0.2=2\n", "0.2=01\n", "0.2=10\n", "0.2=/\n",
            "0.3=8\n", "0.3=07\n", "0.3=7 \n", "0.3=70000000000\n", "0.3=+7\n", "0.4=00\n", "0.4=7\n", "0.5=1,0\n", "0.5= \n", "0.5=123456789012345\n",
            "0.1=\u007f\n", "0.1=\t\n", "0.1=\u00ff\n", "0.1=" + "a".repeat(31) + "\n"};
        for (String line : bad) {
            int at = line.equals("0.1=\n\n") ? -2 : -1;
            x.dueRead(at, line);
        }
        x.dueData("0.1=\n0.2=0\n0.3=\n0.4=\n0.5=\n");
        x.dueRead(2, "0.1=" + "a".repeat(30) + "\n0.5=12345678901234\n");
    }

    private static void codesOfEveryLength() {
        Form x = new Form();
        int c = x.top(Form.CHOICE, 1);
        int[] codes = {0, 10, 999, 1000, 99999};
        for (int code : codes) {
            x.f.option(c, code);
        }
        for (int code : codes) {
            x.dueRead(1, "1=" + code + "\n");
            x.dueData("1=" + code + "\n");
            x.dueRead(-1, "1=0" + code + "\n");
        }
    }

    private static void radiosAreReadAsTheyAreNow() {
        Form x = everyKind();
        x.dueRead(3, "0.3=7\n0.3=\n0.3=70\n");
        x.dueRead(-1, "0.3=\n");
        x.dueRead(-2, "0.3=7\n0.3=\n");
        Check.same("as before", "70", x.shown(3));
        x.f.set(3, 2, 1);
        x.dueRead(2, "0.3=7\n0.3=\n");
        Check.same("off", "", x.shown(3));
    }

    private static void lockedAndFlat() {
        Form x = everyKind();
        x.f.flatten(1);
        x.dueRead(1, "0.1=ab\n");
        Check.same("also of a flat one", "ab", x.shown(1));
        x.f.lock(1, true);
        x.dueRead(-2, "0.2=1\n0.1=c\n");
        x.dueData("0.1=ab\n0.2=0\n0.3=\n0.4=\n0.5=\n");
    }

    private static void cellsBoundWhatIsRead() {
        Form x = everyKind();
        x.f.set(1, 1, 2);
        x.dueRead(1, "0.1=ab\n");
        x.dueRead(-1, "0.1=abc\n");
        Check.same("as before", "ab", x.shown(1));
    }

    private static void writtenIsReadAgain() {
        Form x = everyKind();
        x.dueRead(5, "0.1= !\"~\n0.2=1\n0.3=70\n0.4=0\n0.5=--..\n");
        String data = x.data();
        Form y = everyKind();
        y.dueRead(5, data);
        y.dueData(data);
    }
}
