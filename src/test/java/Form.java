import java.util.NoSuchElementException;

/** A form with short ways to tell it values and to see what it holds. */
final class Form {
    static final Class<NoSuchElementException> MISSING = NoSuchElementException.class;
    static final Class<IllegalArgumentException> ARGUMENT = IllegalArgumentException.class;
    static final Class<IllegalStateException> STATE = IllegalStateException.class;
    static final Class<UnsupportedOperationException> FULL = UnsupportedOperationException.class;
    static final Class<IndexOutOfBoundsException> INDEX = IndexOutOfBoundsException.class;
    static final Class<ArrayIndexOutOfBoundsException> ARRAY_INDEX = ArrayIndexOutOfBoundsException.class;

    static final int GROUP = 0;
    static final int TEXT = 1;
    static final int BOX = 2;
    static final int RADIO = 3;
    static final int CHOICE = 4;
    static final int NUMBER = 5;

    interface OfNumber {
        long answer(int field);
    }

    final FormFields f = new FormFields();

    /** A field without a parent. */
    int top(int kind, int name) {
        return f.field(-1, kind, name);
    }

    /** One field of each kind, its number and its name being its kind. */
    static Form everyKind() {
        Form x = new Form();
        for (int kind = GROUP; kind <= NUMBER; kind++) {
            x.top(kind, kind);
        }
        return x;
    }

    /** A call of a field that is not there: before the first, behind the last, and far away. */
    static void dueMissing(String what, int fields, OfNumber call) {
        for (int number : new int[] {-1, -2, fields, fields + 1, 40, Integer.MAX_VALUE, Integer.MIN_VALUE}) {
            Check.refused(what + " of field " + number, MISSING, () -> call.answer(number));
        }
    }

    void tell(int field, String signs) {
        f.value(field, -1);
        for (char c : signs.toCharArray()) {
            f.value(field, c);
        }
    }

    String shown(int field) {
        StringBuilder all = new StringBuilder();
        for (int i = 0; f.shown(field, i) != -1; i++) {
            all.append((char) f.shown(field, i));
        }
        return all.toString();
    }

    void dueShown(String want, int field) {
        Check.same("shown of " + field, want, shown(field));
    }

    String data() {
        int count = f.write();
        StringBuilder all = new StringBuilder();
        for (int i = 0; i < count; i++) {
            all.append((char) f.at(i));
        }
        return all.toString();
    }

    void dueData(String want) {
        Check.same("data", want, data());
    }

    /** What stands behind the name in the data, or none if there is no such line. */
    String lineOf(String fullName) {
        for (String line : data().split("\n")) {
            if (line.startsWith(fullName + "=")) {
                return line.substring(fullName.length() + 1);
            }
        }
        return "none";
    }

    void send(String bytes) {
        for (char c : bytes.toCharArray()) {
            f.read(c);
        }
    }

    void dueRead(int want, String bytes) {
        send(bytes);
        Check.due("read of " + bytes.replace('\n', '|'), want, () -> f.read(-1));
    }

    /** The marks that were made last, as sign:x:y:size. */
    String marks(int field) {
        int count = f.appearance(field);
        StringBuilder all = new StringBuilder();
        for (int i = 0; i < count; i++) {
            all.append(i == 0 ? "" : " ");
            all.append(f.mark(i, 0)).append(':').append(f.mark(i, 1)).append(':');
            all.append(f.mark(i, 2)).append(':').append(f.mark(i, 3));
        }
        return all.toString();
    }

    void dueMarks(String want, int field) {
        Check.same("marks of " + field, want, marks(field));
    }
}
