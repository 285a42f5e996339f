import java.util.NoSuchElementException;

/**
 * Fields of a form in a tree, with one value for all fields of one full name.
 * The numbered promises of the document say what each call answers.
 */
public final class FormFields {
    private static final int GROUP = 0;
    private static final int TEXT = 1;
    private static final int BOX = 2;
    private static final int RADIO = 3;
    private static final int CHOICE = 4;
    private static final int NUMBER = 5;

    private static final int REQUIRED = 0;
    private static final int CELLS = 1;
    private static final int OFF = 2;
    private static final int DECIMALS = 3;
    private static final int COMMAS = 4;
    private static final int WIDTH = 5;
    private static final int HEIGHT = 6;
    private static final int SIDE = 7;
    private static final int SETTINGS = 8;

    private static final int SUM = 0;
    private static final int DIFFERENCE = 1;
    private static final int PRODUCT = 2;
    private static final int QUOTIENT = 3;
    private static final int LESSER = 4;
    private static final int GREATER = 5;
    private static final int GROUP_SUM = 6;
    private static final int CONSTANT = 7;

    private static final int NONE = -1;
    private static final int MINUS = 45;
    private static final int POINT = 46;
    private static final int ZERO = 48;
    private static final int NINE = 57;
    private static final int COMMA = 44;
    private static final int EQUALS = 61;
    private static final int LINE_END = 10;
    private static final int CROSS = 88;

    private static final int MOST_FIELDS = 40;
    private static final int MOST_NAME = 999;
    private static final int MOST_TEXT_SIGNS = 30;
    private static final int MOST_NUMBER_SIGNS = 14;
    private static final int MOST_OPTIONS = 12;
    private static final int MOST_CODE = 99999;
    private static final int MOST_DECIMALS = 3;
    private static final int MOST_DIGITS = 18;
    private static final int MOST_LENGTH = 100000;
    private static final int MOST_SIDE = 2;
    private static final int MOST_PAGE_MARKS = 400;
    private static final int MOST_BYTES = 3000;
    /** Below g groups a line has at most 4 g + 35 bytes, and (40 - g) lines of these stay under it. */
    private static final int MOST_DATA = 2400;
    private static final int GREATEST_SIZE = 96;
    private static final int LEAST_SIZE = 6;
    private static final int MARK_PARTS = 5;
    private static final int MARK_FIELD = 4;

    private static final long MOST_AMOUNT = 999999999999L;
    private static final long NO_AMOUNT = Long.MIN_VALUE;

    private final Tree tree;
    private final View view;
    private final Calculator calculator;
    private final Writer writer;
    private final Reader reader;
    private final Marks made;
    private final Marks kept;

    public FormFields() {
        tree = new Tree();
        view = new View();
        calculator = new Calculator(tree);
        writer = new Writer(tree);
        reader = new Reader(tree);
        made = new Marks(1 + MOST_TEXT_SIGNS);
        kept = new Marks(MOST_PAGE_MARKS);
    }

    public int field(int parent, int kind, int name) throws NoSuchElementException, IllegalArgumentException, IllegalStateException, UnsupportedOperationException {
        int parentFirst = parent == NONE ? NONE : tree.get(parent).first;
        if (kind < GROUP || kind > NUMBER || name < 0 || name > MOST_NAME) {
            throw new IllegalArgumentException();
        }
        if (parent != NONE && tree.get(parent).kind != GROUP) {
            throw new IllegalArgumentException();
        }
        int first = tree.firstNamed(parentFirst, name);
        if (first != NONE && tree.get(first).kind != kind) {
            throw new IllegalStateException();
        }
        return tree.add(parent, kind, name, first);
    }

    public int value(int field, int c) throws NoSuchElementException, IllegalArgumentException, IllegalStateException, UnsupportedOperationException {
        Field own = tree.get(field);
        Field master = tree.masterOf(field);
        if (!master.couldTake(c)) {
            throw new IllegalArgumentException();
        }
        if (master.locked || own.flat) {
            throw new IllegalStateException();
        }
        return master.hasSigns() ? master.takeSign(c) : master.pick(c);
    }

    public int option(int field, int code) throws NoSuchElementException, IllegalArgumentException, UnsupportedOperationException {
        Field master = tree.masterOf(field);
        if (!master.hasOptions() || code < 0 || code > MOST_CODE || master.codes.find(code) != NONE) {
            throw new IllegalArgumentException();
        }
        if (!master.codes.add(code)) {
            throw new UnsupportedOperationException();
        }
        return master.codes.count() - 1;
    }

    public int set(int field, int what, int v) throws NoSuchElementException, IllegalArgumentException {
        Field own = tree.get(field);
        Field master = tree.masterOf(field);
        if (!master.maySetTo(what, v)) {
            throw new IllegalArgumentException();
        }
        return what >= WIDTH ? own.change(what, v) : master.change(what, v);
    }

    public void bounds(int field, long least, long most) throws NoSuchElementException, IllegalArgumentException {
        Field master = tree.masterOf(field);
        if (master.kind != NUMBER || Amount.isBeyond(least) || Amount.isBeyond(most) || least > most) {
            throw new IllegalArgumentException();
        }
        master.least = least;
        master.most = most;
    }

    public int formula(int field, int op, int a, int b) throws NoSuchElementException, IllegalArgumentException {
        Field master = tree.masterOf(field);
        if (!calculator.mayWorkWith(op, a, b) || master.kind != NUMBER) {
            throw new IllegalArgumentException();
        }
        int had = master.op == NONE ? 0 : 1;
        master.op = op;
        master.a = a;
        master.b = b;
        return had;
    }

    public int calculate() {
        return calculator.workOutAll();
    }

    public int failed(int i) throws IndexOutOfBoundsException {
        if (i == NONE) {
            return calculator.failures.count();
        }
        if (!calculator.failures.has(i)) {
            throw new IndexOutOfBoundsException();
        }
        return calculator.failures.get(i);
    }

    public int fails(int field, boolean on) throws NoSuchElementException, IllegalArgumentException {
        Field master = tree.masterOf(field);
        if (master.kind != NUMBER) {
            throw new IllegalArgumentException();
        }
        int was = master.failing ? 1 : 0;
        master.failing = on;
        return was;
    }

    public int shown(int field, int i) throws NoSuchElementException {
        return view.show(tree.masterOf(field)).get(i);
    }

    public int size(int field) throws NoSuchElementException, IllegalArgumentException {
        return view.fittingSize(tree.get(field), masterWithValue(field));
    }

    public int validate(int field) throws NoSuchElementException, IllegalArgumentException {
        return masterWithValue(field).verdict();
    }

    public int appearance(int field) throws NoSuchElementException, IllegalArgumentException {
        Field master = masterWithValue(field);
        made.clear();
        view.addMarks(tree.get(field), master, made);
        return made.count();
    }

    public int mark(int i, int what) throws IndexOutOfBoundsException {
        if (!made.has(i, what) || what == MARK_FIELD) {
            throw new IndexOutOfBoundsException();
        }
        return made.get(i, what);
    }

    public int flatten(int field) throws NoSuchElementException, IllegalArgumentException, IllegalStateException, UnsupportedOperationException {
        Field own = tree.get(field);
        Field master = masterWithValue(field);
        if (own.flat) {
            throw new IllegalStateException();
        }
        if (kept.count() + 1 + view.show(master).count() > MOST_PAGE_MARKS) {
            throw new UnsupportedOperationException();
        }
        view.addMarks(own, master, kept);
        own.flat = true;
        return kept.count();
    }

    public int page(int i, int what) throws IndexOutOfBoundsException {
        if (!kept.has(i, what)) {
            throw new IndexOutOfBoundsException();
        }
        return kept.get(i, what);
    }

    public int write() {
        return writer.writeAll();
    }

    public int at(int i) throws ArrayIndexOutOfBoundsException {
        if (!writer.data.has(i)) {
            throw new ArrayIndexOutOfBoundsException();
        }
        return writer.data.get(i);
    }

    public int read(int c) throws IllegalArgumentException, UnsupportedOperationException {
        if (c < NONE || c > 255) {
            throw new IllegalArgumentException();
        }
        if (c == NONE) {
            return reader.readAll();
        }
        if (!reader.input.add(c)) {
            throw new UnsupportedOperationException();
        }
        return reader.input.count();
    }

    public int lock(int field, boolean on) throws NoSuchElementException, IllegalArgumentException {
        Field master = masterWithValue(field);
        int was = master.locked ? 1 : 0;
        master.locked = on;
        return was;
    }

    private Field masterWithValue(int field) {
        Field master = tree.masterOf(field);
        if (master.kind == GROUP) {
            throw new IllegalArgumentException();
        }
        return master;
    }

    /** A row of numbers with room for so many and no more. */
    private static final class Row {
        private final int[] items;
        private int count;

        Row(int most) {
            items = new int[Math.max(most, 0)];
        }

        int count() {
            return count;
        }

        boolean has(int i) {
            return i >= 0 && i < count;
        }

        int get(int i) {
            return i >= 0 && i < count && i < items.length ? items[i] : NONE;
        }

        int find(int item) {
            for (int i = 0; i < count; i++) {
                if (get(i) == item) {
                    return i;
                }
            }
            return NONE;
        }

        boolean add(int item) {
            if (count < 0 || count >= items.length) {
                return false;
            }
            items[count] = item;
            count++;
            return true;
        }

        void clear() {
            count = 0;
        }

        /** Adds items from .. to - 1 of another row. */
        void addAll(Row other, int from, int to) {
            for (int i = from; i < to; i++) {
                add(other.get(i));
            }
        }

        void become(Row other) {
            clear();
            addAll(other, 0, other.count());
        }

        boolean isSameAs(Row other) {
            if (count != other.count()) {
                return false;
            }
            for (int i = 0; i < count; i++) {
                if (get(i) != other.get(i)) {
                    return false;
                }
            }
            return true;
        }
    }

    /**
     * One field. What a master holds for all of its full name stands in every
     * field, but is used in the master alone.
     */
    private static final class Field {
        private int number;
        private int kind;
        private int parent;
        private int name;
        /** The first field of the same full name: the master, if it is no group. */
        private int first;
        private boolean flat;
        private boolean locked;
        private final int[] settings = new int[SETTINGS];
        private final Row signs = new Row(MOST_TEXT_SIGNS);
        private final Row codes = new Row(MOST_OPTIONS);
        /** The value of a box, or the number of the option of a radio or choice. */
        private int picked;
        private long least = -MOST_AMOUNT;
        private long most = MOST_AMOUNT;
        private int op = NONE;
        private int a;
        private int b;
        private boolean failing;

        void begin(int itsNumber, int itsParent, int itsKind, int itsName, int itsFirst) {
            number = itsNumber;
            parent = itsParent;
            kind = itsKind;
            name = itsName;
            first = itsFirst;
            picked = hasOptions() ? NONE : 0;
            settings[DECIMALS] = MOST_DECIMALS;
            settings[WIDTH] = 800;
            settings[HEIGHT] = 160;
        }

        boolean hasSigns() {
            return kind == TEXT || kind == NUMBER;
        }

        boolean hasOptions() {
            return kind == RADIO || kind == CHOICE;
        }

        boolean isSign(int c) {
            if (kind == NUMBER) {
                return c >= ZERO && c <= NINE || c == MINUS || c == POINT;
            }
            return kind == TEXT && c >= 32 && c <= 126;
        }

        /** How many signs it may have. */
        int room() {
            if (kind == NUMBER) {
                return MOST_NUMBER_SIGNS;
            }
            return settings[CELLS] > 0 ? settings[CELLS] : MOST_TEXT_SIGNS;
        }

        boolean mayBeNone() {
            return kind == CHOICE || kind == RADIO && (settings[OFF] == 1 || picked == NONE);
        }

        boolean couldTake(int c) {
            if (hasSigns()) {
                return c == NONE || isSign(c);
            }
            if (hasOptions()) {
                return c == NONE ? mayBeNone() : codes.has(c);
            }
            return kind == BOX && isFlag(c);
        }

        int takeSign(int c) {
            if (c == NONE) {
                signs.clear();
                return 0;
            }
            if (signs.count() >= room()) {
                throw new UnsupportedOperationException();
            }
            signs.add(c);
            return signs.count();
        }

        int pick(int c) {
            picked = c;
            return c;
        }

        static boolean isFlag(int v) {
            return v == 0 || v == 1;
        }

        boolean maySetTo(int what, int v) {
            switch (what) {
                case REQUIRED:
                    return kind != GROUP && isFlag(v);
                case CELLS:
                    return kind == TEXT && (v == 0 || v >= signs.count() && v <= MOST_TEXT_SIGNS);
                case OFF:
                    return kind == RADIO && isFlag(v);
                case DECIMALS:
                    return kind == NUMBER && v >= 0 && v <= MOST_DECIMALS;
                case COMMAS:
                    return kind == NUMBER && isFlag(v);
                case WIDTH:
                case HEIGHT:
                    return kind != GROUP && v >= 0 && v <= MOST_LENGTH;
                case SIDE:
                    return kind != GROUP && v >= 0 && v <= MOST_SIDE;
                default:
                    return false;
            }
        }

        int change(int what, int v) {
            if (what < 0 || what >= settings.length) {
                return NONE;
            }
            int was = settings[what];
            settings[what] = v;
            return was;
        }

        boolean isEmpty() {
            if (hasSigns()) {
                return signs.count() == 0;
            }
            return picked == (kind == BOX ? 0 : NONE);
        }

        long amount() {
            if (kind == BOX) {
                return 1000L * picked;
            }
            return kind == NUMBER ? Amount.of(signs) : NO_AMOUNT;
        }

        int verdict() {
            if (settings[REQUIRED] == 1 && isEmpty()) {
                return 2;
            }
            if (kind != NUMBER || signs.count() == 0) {
                return 1;
            }
            long amount = amount();
            if (amount == NO_AMOUNT) {
                return 3;
            }
            if (amount < least) {
                return 4;
            }
            return amount > most ? 5 : 1;
        }
    }

    /** All fields, by their numbers and by their full names. */
    private static final class Tree {
        private final Field[] fields = new Field[MOST_FIELDS];
        private int count;

        Tree() {
            for (int i = 0; i < fields.length; i++) {
                fields[i] = new Field();
            }
        }

        int count() {
            return count;
        }

        Field get(int number) {
            if (number < 0 || number >= count || number >= fields.length) {
                throw new NoSuchElementException();
            }
            return fields[number];
        }

        Field masterOf(int number) {
            return get(get(number).first);
        }

        int add(int parent, int kind, int name, int first) {
            int number = count;
            if (number < 0 || number >= fields.length) {
                throw new UnsupportedOperationException();
            }
            fields[number].begin(number, parent, kind, name, first == NONE ? number : first);
            count++;
            return number;
        }

        /** The first field of this name below the parent's full name, or none. */
        int firstNamed(int parentFirst, int name) {
            for (int i = 0; i < count; i++) {
                Field f = get(i);
                int above = f.parent == NONE ? NONE : get(f.parent).first;
                if (f.name == name && above == parentFirst) {
                    return i;
                }
            }
            return NONE;
        }

        boolean isMaster(int number) {
            Field f = get(number);
            return f.kind != GROUP && f.first == number;
        }

        boolean isInside(int number, int group) {
            int above = get(number).parent;
            for (int step = 0; step < MOST_FIELDS && above != NONE; step++) {
                if (above == group) {
                    return true;
                }
                above = get(above).parent;
            }
            return false;
        }
    }

    /** Amounts are in thousandths. */
    private static final class Amount {
        static boolean isBeyond(long amount) {
            return amount < -MOST_AMOUNT || amount > MOST_AMOUNT;
        }

        static boolean isDigit(int sign) {
            return sign >= ZERO && sign <= NINE;
        }

        static long of(Row signs) {
            if (signs.count() == 0) {
                return 0;
            }
            boolean below = signs.get(0) == MINUS;
            int begin = below ? 1 : 0;
            int end = begin;
            long whole = 0;
            while (end < signs.count() && isDigit(signs.get(end))) {
                whole = whole * 10 + signs.get(end) - ZERO;
                end++;
            }
            if (end - begin < 1 || end - begin > 9) {
                return NO_AMOUNT;
            }
            long part = partOf(signs, end);
            if (part == NO_AMOUNT) {
                return NO_AMOUNT;
            }
            return below ? -(whole * 1000 + part) : whole * 1000 + part;
        }

        /** The thousandths that the signs behind the whole part tell. */
        private static long partOf(Row signs, int begin) {
            if (begin == signs.count()) {
                return 0;
            }
            int digits = signs.count() - begin - 1;
            if (signs.get(begin) != POINT || digits < 1 || digits > 3) {
                return NO_AMOUNT;
            }
            long part = 0;
            int unit = 100;
            for (int i = begin + 1; i < signs.count(); i++) {
                if (!isDigit(signs.get(i))) {
                    return NO_AMOUNT;
                }
                part += (long) (signs.get(i) - ZERO) * unit;
                unit /= 10;
            }
            return part;
        }

        /** A number that is not below 0 without so many digits at its end. */
        private static long cut(long number, int digits) {
            long rest = number;
            for (int i = 0; i < digits; i++) {
                rest /= 10;
            }
            return rest;
        }

        private static int digitSign(long number, int behind) {
            return ZERO + (int) (cut(number, behind) % 10);
        }

        /** Adds the digits of a number that is not below 0. */
        static void addNumber(long number, boolean commas, Row out) {
            int digits = 1;
            while (digits < MOST_DIGITS && cut(number, digits) > 0) {
                digits++;
            }
            for (int behind = digits - 1; behind >= 0; behind--) {
                out.add(digitSign(number, behind));
                if (commas && behind > 0 && behind % 3 == 0) {
                    out.add(COMMA);
                }
            }
        }

        /** Adds so many last digits of a number, with the zeros among them. */
        private static void addPart(long number, int digits, Row out) {
            if (digits <= 0) {
                return;
            }
            out.add(POINT);
            for (int behind = digits - 1; behind >= 0; behind--) {
                out.add(digitSign(number, behind));
            }
        }

        static void addWritten(long amount, Row out) {
            long far = Math.abs(amount);
            if (amount < 0) {
                out.add(MINUS);
            }
            addNumber(far / 1000, false, out);
            long part = far % 1000;
            int digits = part == 0 ? 0 : 3;
            for (int i = 0; i < 2 && digits > 0 && part % 10 == 0; i++) {
                part /= 10;
                digits--;
            }
            addPart(part, digits, out);
        }

        static void addShown(long amount, int decimals, boolean commas, Row out) {
            long rounded = cut(Math.abs(amount) + halfOfLast(decimals), MOST_DECIMALS - decimals);
            if (amount < 0 && rounded > 0) {
                out.add(MINUS);
            }
            addNumber(cut(rounded, decimals), commas, out);
            addPart(rounded, decimals, out);
        }

        /** Half of what the last of so many decimals counts. */
        private static long halfOfLast(int decimals) {
            switch (decimals) {
                case 0:
                    return 500;
                case 1:
                    return 50;
                case 2:
                    return 5;
                default:
                    return 0;
            }
        }

        /** What a formula of two fields comes to, or no amount. */
        static long combine(int op, long a, long b) {
            switch (op) {
                case SUM:
                    return a + b;
                case DIFFERENCE:
                    return a - b;
                case PRODUCT:
                    return product(a, b);
                case QUOTIENT:
                    return b == 0 ? NO_AMOUNT : a * 1000 / b;
                case LESSER:
                    return Math.min(a, b);
                case GREATER:
                    return Math.max(a, b);
                default:
                    return NO_AMOUNT;
            }
        }

        private static long product(long a, long b) {
            // Two amounts can pass what a long holds, so their product is bounded before it is made.
            long mostProduct = MOST_AMOUNT * 1000 + 999;
            if (b != 0 && Math.abs(a) > mostProduct / Math.abs(b)) {
                return NO_AMOUNT;
            }
            return a * b / 1000;
        }
    }

    /** What is shown of a field, how large, and its marks. */
    private static final class View {
        private final Row signs = new Row(MOST_TEXT_SIGNS);

        Row show(Field master) {
            signs.clear();
            switch (master.kind) {
                case TEXT:
                    signs.become(master.signs);
                    break;
                case NUMBER:
                    showNumber(master);
                    break;
                case BOX:
                    if (master.picked == 1) {
                        signs.add(CROSS);
                    }
                    break;
                case RADIO:
                case CHOICE:
                    if (master.codes.has(master.picked)) {
                        Amount.addNumber(master.codes.get(master.picked), false, signs);
                    }
                    break;
                default:
                    break;
            }
            return signs;
        }

        private void showNumber(Field master) {
            long amount = master.amount();
            if (amount == NO_AMOUNT || master.signs.count() == 0) {
                signs.become(master.signs);
                return;
            }
            Amount.addShown(amount, master.settings[DECIMALS], master.settings[COMMAS] == 1, signs);
        }

        /** The greatest size that fits, else the least one below 0. */
        int fittingSize(Field own, Field master) {
            int shownCount = show(master).count();
            return sizeFor(own, master.settings[CELLS] > 0 ? master.settings[CELLS] : shownCount);
        }

        private static int sizeFor(Field own, int signCount) {
            for (int size = GREATEST_SIZE; size >= LEAST_SIZE; size /= 2) {
                boolean wideEnough = signCount * (size / 2) <= own.settings[WIDTH];
                if (wideEnough && size + size / 4 <= own.settings[HEIGHT]) {
                    return size;
                }
            }
            return -LEAST_SIZE;
        }

        void addMarks(Field own, Field master, Marks out) {
            int shownCount = show(master).count();
            int cells = master.settings[CELLS];
            int size = Math.abs(sizeFor(own, cells > 0 ? cells : shownCount));
            int y = (own.settings[HEIGHT] - size) / 2;
            int begin = beginning(own, shownCount * (size / 2));
            out.add(0, 0, 0, 0, own.number);
            for (int k = 0; k < shownCount; k++) {
                int x = cells > 0 ? cellX(k, own.settings[WIDTH], cells, size) : begin + k * (size / 2);
                out.add(signs.get(k), x, y, size, own.number);
            }
        }

        private static int beginning(Field own, int shownWidth) {
            int left = own.settings[WIDTH] - shownWidth;
            switch (own.settings[SIDE]) {
                case 1:
                    return left / 2;
                case 2:
                    return left;
                default:
                    return 0;
            }
        }

        private static int cellX(int k, int width, int cells, int size) {
            if (cells <= 0) {
                return 0;
            }
            return k * width / cells + (width / cells - size / 2) / 2;
        }
    }

    /** Marks in their order: of each the sign, x, y, the size and the field. */
    private static final class Marks {
        private final int[][] parts;
        private final int most;
        private int count;

        Marks(int room) {
            most = Math.max(room, 0);
            parts = new int[MARK_PARTS][most];
        }

        int count() {
            return count;
        }

        void clear() {
            count = 0;
        }

        boolean has(int i, int what) {
            return i >= 0 && i < count && what >= 0 && what < MARK_PARTS;
        }

        int get(int i, int what) {
            return has(i, what) ? parts[what][i] : NONE;
        }

        void add(int sign, int x, int y, int size, int number) {
            if (count < 0 || count >= most) {
                return;
            }
            parts[0][count] = sign;
            parts[1][count] = x;
            parts[2][count] = y;
            parts[3][count] = size;
            parts[MARK_FIELD][count] = number;
            count++;
        }
    }

    /** Works out the formulas; sets of masters are held as the bits of a long. */
    private static final class Calculator {
        private final Tree tree;
        private final long[] needs = new long[MOST_FIELDS];
        private final long[] reached = new long[MOST_FIELDS];
        private final Row result = new Row(MOST_NUMBER_SIGNS);
        private final Row failures = new Row(MOST_FIELDS);

        Calculator(Tree itsTree) {
            tree = itsTree;
        }

        /** Whether op may stand with these fields; it throws if one of them is not there. */
        boolean mayWorkWith(int op, int a, int b) {
            if (op >= SUM && op <= GREATER) {
                Field left = tree.get(a);
                Field right = tree.get(b);
                return canBeReckoned(left) && canBeReckoned(right);
            }
            if (op == GROUP_SUM) {
                return tree.get(a).kind == GROUP;
            }
            return op == CONSTANT || op == NONE;
        }

        private static boolean canBeReckoned(Field f) {
            return f.kind == NUMBER || f.kind == BOX;
        }

        int workOutAll() {
            long waiting = gatherNeeds();
            int ring = leastInRing();
            if (ring != NONE) {
                return -1 - ring;
            }
            failures.clear();
            int changed = 0;
            for (int step = 0; step < MOST_FIELDS && waiting != 0; step++) {
                int next = leastReady(waiting);
                if (next == NONE) {
                    return changed;
                }
                changed += writeResult(next, resultOf(tree.get(next)));
                waiting &= ~bit(next);
            }
            return changed;
        }

        private static long bit(int number) {
            return 1L << number;
        }

        private static boolean isIn(long set, int number) {
            return (set & bit(number)) != 0;
        }

        /** The masters that have formulas; what each of them needs is noted. */
        private long gatherNeeds() {
            long withFormula = 0;
            for (int i = 0; i < tree.count() && i < MOST_FIELDS; i++) {
                Field f = tree.get(i);
                needs[i] = needsOf(f);
                reached[i] = needs[i];
                if (f.op != NONE) {
                    withFormula |= bit(i);
                }
            }
            return withFormula;
        }

        private long needsOf(Field f) {
            if (f.op >= SUM && f.op <= GREATER) {
                return bit(tree.get(f.a).first) | bit(tree.get(f.b).first);
            }
            return f.op == GROUP_SUM ? numbersIn(f.a) : 0;
        }

        private long numbersIn(int group) {
            long masters = 0;
            for (int i = 0; i < tree.count(); i++) {
                if (tree.get(i).kind == NUMBER && tree.isInside(i, group)) {
                    masters |= bit(tree.get(i).first);
                }
            }
            return masters;
        }

        private int leastInRing() {
            int count = Math.min(tree.count(), MOST_FIELDS);
            for (int through = 0; through < count; through++) {
                for (int i = 0; i < count; i++) {
                    if (isIn(reached[i], through)) {
                        reached[i] |= reached[through];
                    }
                }
            }
            for (int i = 0; i < count; i++) {
                if (isIn(reached[i], i)) {
                    return i;
                }
            }
            return NONE;
        }

        private int leastReady(long waiting) {
            for (int i = 0; i < MOST_FIELDS; i++) {
                if (isIn(waiting, i) && (needs[i] & waiting) == 0) {
                    return i;
                }
            }
            return NONE;
        }

        /** 1 if the master has other signs than before, else 0. */
        private int writeResult(int number, long amount) {
            Field f = tree.get(number);
            if (amount == NO_AMOUNT || Amount.isBeyond(amount)) {
                failures.add(number);
                return 0;
            }
            result.clear();
            Amount.addWritten(amount, result);
            if (result.isSameAs(f.signs)) {
                return 0;
            }
            f.signs.become(result);
            return 1;
        }

        private long resultOf(Field f) {
            if (f.failing) {
                return NO_AMOUNT;
            }
            if (f.op == CONSTANT) {
                return f.a;
            }
            if (f.op == GROUP_SUM) {
                return sumOf(numbersIn(f.a));
            }
            long left = tree.masterOf(f.a).amount();
            long right = tree.masterOf(f.b).amount();
            if (left == NO_AMOUNT || right == NO_AMOUNT) {
                return NO_AMOUNT;
            }
            return Amount.combine(f.op, left, right);
        }

        private long sumOf(long masters) {
            long sum = 0;
            for (int i = 0; i < tree.count(); i++) {
                if (isIn(masters, i)) {
                    long amount = tree.get(i).amount();
                    if (amount == NO_AMOUNT) {
                        return NO_AMOUNT;
                    }
                    sum += amount;
                }
            }
            return sum;
        }
    }

    /** Writes the data. */
    private static final class Writer {
        private final Tree tree;
        private final Row data = new Row(MOST_DATA);
        private final Row upwards = new Row(MOST_FIELDS);

        Writer(Tree itsTree) {
            tree = itsTree;
        }

        int writeAll() {
            data.clear();
            for (int i = 0; i < tree.count(); i++) {
                if (tree.isMaster(i)) {
                    addFullName(i);
                    data.add(EQUALS);
                    addContent(tree.get(i));
                    data.add(LINE_END);
                }
            }
            return data.count();
        }

        private void addFullName(int number) {
            upwards.clear();
            int above = number;
            for (int step = 0; step < MOST_FIELDS && above != NONE; step++) {
                upwards.add(tree.get(above).name);
                above = tree.get(above).parent;
            }
            for (int i = upwards.count() - 1; i >= 0; i--) {
                Amount.addNumber(upwards.get(i), false, data);
                if (i > 0) {
                    data.add(POINT);
                }
            }
        }

        private void addContent(Field master) {
            if (master.hasSigns()) {
                data.addAll(master.signs, 0, master.signs.count());
            } else if (master.kind == BOX) {
                data.add(ZERO + master.picked);
            } else if (master.codes.has(master.picked)) {
                Amount.addNumber(master.codes.get(master.picked), false, data);
            }
        }
    }

    /** Reads lines as they are written. */
    private static final class Reader {
        private final Tree tree;
        private final Row input = new Row(MOST_BYTES);

        Reader(Tree itsTree) {
            tree = itsTree;
        }

        int readAll() {
            int answer = checkAll();
            takeAll(answer);
            input.clear();
            return answer;
        }

        /** How many lines there are, or -1 less the first that is no good. */
        private int checkAll() {
            int lines = 0;
            int begin = 0;
            for (int step = 0; step < MOST_BYTES && begin < input.count(); step++) {
                int end = endOf(begin);
                if (!isGood(begin, end)) {
                    return -1 - lines;
                }
                lines++;
                begin = end + 1;
            }
            return lines;
        }

        private void takeAll(int lines) {
            int begin = 0;
            for (int line = 0; line < lines; line++) {
                int end = endOf(begin);
                take(begin, end);
                begin = end + 1;
            }
        }

        private int endOf(int begin) {
            return next(LINE_END, begin, input.count());
        }

        /** Where the byte comes next, or the end if it does not. */
        private int next(int sought, int begin, int end) {
            for (int i = begin; i < end; i++) {
                if (input.get(i) == sought) {
                    return i;
                }
            }
            return end;
        }

        private boolean isGood(int begin, int end) {
            int equals = next(EQUALS, begin, end);
            int number = masterNamed(begin, equals);
            if (end == input.count() || equals == end || number == NONE) {
                return false;
            }
            Field master = tree.get(number);
            return !master.locked && couldTake(master, equals + 1, end);
        }

        private void take(int begin, int end) {
            int equals = next(EQUALS, begin, end);
            int number = masterNamed(begin, equals);
            if (number == NONE) {
                return;
            }
            Field master = tree.get(number);
            if (master.hasSigns()) {
                master.signs.clear();
                master.signs.addAll(input, equals + 1, end);
            } else if (master.kind == BOX) {
                master.picked = input.get(equals + 1) - ZERO;
            } else {
                master.picked = master.codes.find(plainNumber(equals + 1, end));
            }
        }

        /** The master whose full name stands there, or none. */
        private int masterNamed(int begin, int end) {
            int first = NONE;
            int from = begin;
            for (int depth = 0; depth < MOST_FIELDS && from <= end; depth++) {
                int to = next(POINT, from, end);
                int name = plainNumber(from, to);
                first = name == NONE ? NONE : tree.firstNamed(first, name);
                if (first == NONE) {
                    return NONE;
                }
                from = to + 1;
            }
            return from > end && first != NONE && tree.isMaster(first) ? first : NONE;
        }

        /** A number of one to five digits without zeros in front, or none. */
        private int plainNumber(int begin, int end) {
            int digits = end - begin;
            if (digits < 1 || digits > 5 || digits > 1 && input.get(begin) == ZERO) {
                return NONE;
            }
            int number = 0;
            for (int i = begin; i < end; i++) {
                if (!Amount.isDigit(input.get(i))) {
                    return NONE;
                }
                number = number * 10 + input.get(i) - ZERO;
            }
            return number;
        }

        private boolean couldTake(Field master, int begin, int end) {
            if (master.hasSigns()) {
                return couldTakeSigns(master, begin, end);
            }
            if (master.kind == BOX) {
                return end - begin == 1 && Field.isFlag(input.get(begin) - ZERO);
            }
            if (begin == end) {
                return master.mayBeNone();
            }
            int code = plainNumber(begin, end);
            return code != NONE && master.codes.find(code) != NONE;
        }

        private boolean couldTakeSigns(Field master, int begin, int end) {
            if (end - begin > master.room()) {
                return false;
            }
            for (int i = begin; i < end; i++) {
                if (!master.isSign(input.get(i))) {
                    return false;
                }
            }
            return true;
        }
    }
}
