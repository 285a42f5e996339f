/** Promises 11, 12 and 14 to 17: what is shown, sizes, marks and the page. */
public final class PageTest {
    public static void main(String[] args) {
        shownByKind();
        sizesByHeight();
        sizesByWidth();
        sizesRefuse();
        marksBySide();
        marksBeyondTheWidth();
        marksInCells();
        marksInOneCell();
        cellsMakeTheSignsSmall();
        marksStayAsMade();
        flattenRefuses();
        flattenIsOfTheFieldItself();
        thePageHoldsFourHundred();
        Check.end();
    }

    private static void shownByKind() {
        Form x = new Form();
        int g = x.top(Form.GROUP, 0);
        Check.due("a group", -1, () -> x.f.shown(g, 0));
        int t = x.top(Form.TEXT, 1);
        x.tell(t, "-1.5");
        x.dueShown("-1.5", t);
        Check.due("behind the last", -1, () -> x.f.shown(t, 4));
        Check.due("before the first", -1, () -> x.f.shown(t, -1));
        Check.refused("missing", Form.MISSING, () -> x.f.shown(2, 0));
    }

    private static void sizesByHeight() {
        Form x = new Form();
        int t = x.top(Form.TEXT, 1);
        int[] heights = {0, 6, 7, 14, 15, 29, 30, 59, 60, 119, 120, 160, 100000};
        int[] sizes = {-6, -6, 6, 6, 12, 12, 24, 24, 48, 48, 96, 96, 96};
        for (int i = 0; i < heights.length; i++) {
            int n = i;
            x.f.set(t, 6, heights[n]);
            Check.due("height " + heights[n], sizes[n], () -> x.f.size(t));
        }
    }

    private static void sizesByWidth() {
        Form x = new Form();
        int t = x.top(Form.TEXT, 1);
        int same = x.top(Form.TEXT, 1);
        x.tell(t, "abcde");
        int[] widths = {0, 14, 15, 29, 30, 59, 60, 119, 120, 239, 240};
        int[] sizes = {-6, -6, 6, 6, 12, 12, 24, 24, 48, 48, 96};
        for (int i = 0; i < widths.length; i++) {
            int n = i;
            x.f.set(t, 5, widths[n]);
            Check.due("width " + widths[n], sizes[n], () -> x.f.size(t));
        }
        Check.due("the other has its own width", 96, () -> x.f.size(same));
        x.f.set(same, 1, 17);
        Check.due("cells count in place of signs", 48, () -> x.f.size(same));
        Check.due("for both", 24, () -> x.f.size(t));
        x.f.set(t, 5, 0);
        x.f.value(t, -1);
        Check.due("also without signs", -6, () -> x.f.size(t));
        x.f.set(t, 1, 0);
        Check.due("nothing fits into nothing", 96, () -> x.f.size(t));
    }

    private static void sizesRefuse() {
        Form x = new Form();
        int g = x.top(Form.GROUP, 0);
        Check.refused("missing", Form.MISSING, () -> x.f.size(1));
        Check.refused("group", Form.ARGUMENT, () -> x.f.size(g));
        Check.refused("missing", Form.MISSING, () -> x.f.appearance(1));
        Check.refused("group", Form.ARGUMENT, () -> x.f.appearance(g));
        Check.refused("group, still no marks", Form.INDEX, () -> x.f.mark(0, 0));
    }

    private static void marksBySide() {
        Form x = new Form();
        int c = x.top(Form.CHOICE, 1);
        x.dueMarks("0:0:0:0", c);
        x.f.option(c, 40);
        x.f.value(c, 0);
        x.f.set(c, 5, 101);
        x.f.set(c, 6, 163);
        x.dueMarks("0:0:0:0 52:0:33:96 48:48:33:96", c);
        x.f.set(c, 7, 1);
        x.dueMarks("0:0:0:0 52:2:33:96 48:50:33:96", c);
        x.f.set(c, 7, 2);
        x.dueMarks("0:0:0:0 52:5:33:96 48:53:33:96", c);
    }

    private static void marksBeyondTheWidth() {
        Form x = new Form();
        int t = x.top(Form.TEXT, 1);
        x.tell(t, "ab");
        x.f.set(t, 5, 1);
        x.f.set(t, 6, 1);
        x.dueMarks("0:0:0:0 97:0:-2:6 98:3:-2:6", t);
        x.f.set(t, 7, 1);
        x.dueMarks("0:0:0:0 97:-2:-2:6 98:1:-2:6", t);
        x.f.set(t, 7, 2);
        x.dueMarks("0:0:0:0 97:-5:-2:6 98:-2:-2:6", t);
    }

    private static void marksInCells() {
        Form x = new Form();
        int t = x.top(Form.TEXT, 1);
        x.tell(t, "abc");
        x.f.set(t, 1, 7);
        x.f.set(t, 7, 2);
        x.f.set(t, 5, 100);
        x.dueMarks("0:0:0:0 97:1:68:24 98:15:68:24 99:29:68:24", t);
        x.f.set(t, 5, 10);
        x.dueMarks("0:0:0:0 97:-1:77:6 98:0:77:6 99:1:77:6", t);
        x.f.set(t, 5, 0);
        x.dueMarks("0:0:0:0 97:-1:77:6 98:-1:77:6 99:-1:77:6", t);
    }

    private static void marksInOneCell() {
        Form x = new Form();
        int t = x.top(Form.TEXT, 1);
        x.f.set(t, 1, 1);
        x.f.set(t, 5, 47);
        Check.due("an empty cell is as wide as a sign", 48, () -> x.f.size(t));
        x.f.value(t, 97);
        Check.refused("one sign only", Form.FULL, () -> x.f.value(t, 98));
        x.f.set(t, 7, 2);
        x.dueMarks("0:0:0:0 97:11:56:48", t);
    }

    private static void cellsMakeTheSignsSmall() {
        Form x = new Form();
        int t = x.top(Form.TEXT, 1);
        x.f.value(t, 97);
        x.f.set(t, 1, 30);
        x.dueMarks("0:0:0:0 97:1:56:48", t);
        x.f.set(t, 1, 0);
        x.dueMarks("0:0:0:0 97:0:32:96", t);
    }

    private static void marksStayAsMade() {
        Form x = new Form();
        int t = x.top(Form.TEXT, 1);
        int b = x.top(Form.BOX, 2);
        x.tell(t, "ab");
        Check.due("three", 3, () -> x.f.appearance(t));
        x.f.value(t, -1);
        x.f.flatten(b);
        Check.due("as made", 98, () -> x.f.mark(2, 0));
        Check.refused("the fourth", Form.INDEX, () -> x.f.mark(3, 0));
        Check.refused("before the first", Form.INDEX, () -> x.f.mark(-1, 0));
        Check.refused("what 4", Form.INDEX, () -> x.f.mark(0, 4));
        Check.refused("what -1", Form.INDEX, () -> x.f.mark(0, -1));
        Check.due("one", 1, () -> x.f.appearance(b));
        Check.refused("only one", Form.INDEX, () -> x.f.mark(1, 0));
    }

    private static void flattenRefuses() {
        Form x = new Form();
        int g = x.top(Form.GROUP, 0);
        int b = x.top(Form.BOX, 1);
        Check.refused("missing", Form.MISSING, () -> x.f.flatten(2));
        Check.refused("group", Form.ARGUMENT, () -> x.f.flatten(g));
        Check.due("frame", 1, () -> x.f.flatten(b));
        Check.refused("twice", Form.STATE, () -> x.f.flatten(b));
        Check.due("its field", b, () -> x.f.page(0, 4));
        Check.refused("one mark only", Form.INDEX, () -> x.f.page(1, 0));
        Check.refused("what 5", Form.INDEX, () -> x.f.page(0, 5));
        Check.refused("what -1", Form.INDEX, () -> x.f.page(0, -1));
        Check.refused("i -1", Form.INDEX, () -> x.f.page(-1, 0));
    }

    private static void flattenIsOfTheFieldItself() {
        Form x = new Form();
        int t = x.top(Form.TEXT, 1);
        int same = x.top(Form.TEXT, 1);
        x.tell(t, "Q");
        x.f.set(same, 7, 2);
        x.f.lock(t, true);
        Check.due("two", 2, () -> x.f.flatten(same));
        x.f.lock(t, false);
        Check.refused("flat itself", Form.STATE, () -> x.f.value(same, 65));
        Check.due("the master is not", 2, () -> x.f.value(t, 65));
        x.dueShown("QA", same);
        Check.due("sign", 81, () -> x.f.page(1, 0));
        Check.due("x", 752, () -> x.f.page(1, 1));
        Check.due("y", 32, () -> x.f.page(1, 2));
        Check.due("size", 96, () -> x.f.page(1, 3));
        Check.due("field", same, () -> x.f.page(1, 4));
        Check.due("five", 5, () -> x.f.flatten(t));
        Check.due("frame", 0, () -> x.f.page(2, 0));
        Check.due("frame's size", 0, () -> x.f.page(2, 3));
        Check.due("field", t, () -> x.f.page(4, 4));
    }

    private static void thePageHoldsFourHundred() {
        Form x = new Form();
        int t = x.top(Form.TEXT, 1);
        x.tell(t, "a".repeat(30));
        for (int i = 1; i <= 13; i++) {
            x.top(Form.TEXT, 1);
        }
        for (int i = 0; i < 12; i++) {
            int n = i;
            Check.due("flatten", 31 * (n + 1), () -> x.f.flatten(n));
        }
        Check.refused("403", Form.FULL, () -> x.f.flatten(12));
        Check.refused("flat before full", Form.STATE, () -> x.f.flatten(0));
        x.tell(12, "b".repeat(28));
        Check.refused("401", Form.FULL, () -> x.f.flatten(12));
        Check.refused("nothing came of it", Form.INDEX, () -> x.f.page(372, 0));
        x.tell(12, "b".repeat(27));
        Check.due("400", 400, () -> x.f.flatten(12));
        Check.due("the last", 98, () -> x.f.page(399, 0));
        x.f.value(13, -1);
        Check.refused("one more", Form.FULL, () -> x.f.flatten(13));
    }
}
