import java.math.BigDecimal;
import java.math.BigInteger;
import java.math.RoundingMode;
import java.util.ArrayList;
import java.util.LinkedHashMap;
import java.util.List;
import java.util.Map;
import java.util.NoSuchElementException;
import java.util.Set;
import java.util.TreeSet;

/**
 * A second writing of the document, with texts, maps and big numbers in place of
 * rows and bits, so that a slip in the one is not made in the other.
 */
final class Model {
    private static final BigInteger MOST = new BigInteger("999999999999");

    private static final class Shared {
        int kind;
        int master;
        String signs = "";
        int picked;
        final List<Integer> codes = new ArrayList<>();
        final int[] settings = {0, 0, 0, 3, 0};
        boolean locked;
        BigInteger least = MOST.negate();
        BigInteger most = MOST;
        int[] formula = null;
        boolean failing;
    }

    private static final class One {
        int number;
        int parent;
        String fullName;
        Shared shared;
        final int[] settings = {800, 160, 0};
        boolean flat;
    }

    private final List<One> all = new ArrayList<>();
    private final Map<String, Shared> byName = new LinkedHashMap<>();
    private List<Integer> failed = new ArrayList<>();
    private List<int[]> made = new ArrayList<>();
    private final List<int[]> page = new ArrayList<>();
    private String data = "";
    private String input = "";

    private One one(int field) {
        if (field < 0 || field >= all.size()) {
            throw new NoSuchElementException();
        }
        return all.get(field);
    }

    private static void argue(boolean good) {
        if (!good) {
            throw new IllegalArgumentException();
        }
    }

    private One noGroup(int field) {
        One o = one(field);
        argue(o.shared.kind != 0);
        return o;
    }

    int field(int parent, int kind, int name) {
        One above = parent == -1 ? null : one(parent);
        argue(kind >= 0 && kind <= 5 && name >= 0 && name <= 999);
        argue(above == null || above.shared.kind == 0);
        String fullName = (above == null ? "" : above.fullName + ".") + name;
        Shared shared = byName.get(fullName);
        if (shared != null && shared.kind != kind) {
            throw new IllegalStateException();
        }
        if (all.size() == 40) {
            throw new UnsupportedOperationException();
        }
        if (shared == null) {
            shared = new Shared();
            shared.kind = kind;
            shared.master = all.size();
            shared.picked = kind == 3 || kind == 4 ? -1 : 0;
            byName.put(fullName, shared);
        }
        One o = new One();
        o.number = all.size();
        o.parent = parent;
        o.fullName = fullName;
        o.shared = shared;
        all.add(o);
        return o.number;
    }

    /** The whole value that a line could tell, or null. */
    private static String lineValue(Shared s, String text) {
        switch (s.kind) {
            case 1:
                int room = s.settings[1] == 0 ? 30 : s.settings[1];
                return text.matches("[ -~]*") && text.length() <= room ? text : null;
            case 5:
                return text.matches("[-.0-9]{0,14}") ? text : null;
            case 2:
                return text.equals("0") || text.equals("1") ? text : null;
            default:
                if (text.isEmpty()) {
                    return s.kind == 4 || s.settings[2] == 1 || s.picked == -1 ? "-1" : null;
                }
                for (int i = 0; i < s.codes.size(); i++) {
                    if (text.equals("" + s.codes.get(i))) {
                        return "" + i;
                    }
                }
                return null;
        }
    }

    int value(int field, int c) {
        One o = one(field);
        Shared s = o.shared;
        if (s.kind == 1) {
            argue(c == -1 || c >= 32 && c <= 126);
        } else if (s.kind == 5) {
            argue(c == -1 || c >= 0 && "0123456789-.".indexOf(c) >= 0);
        } else if (s.kind == 2) {
            argue(c == 0 || c == 1);
        } else {
            argue(s.kind != 0 && c >= -1 && c < s.codes.size());
            argue(!(s.kind == 3 && c == -1 && s.settings[2] == 0 && s.picked != -1));
        }
        if (s.locked || o.flat) {
            throw new IllegalStateException();
        }
        if (s.kind != 1 && s.kind != 5) {
            s.picked = c;
            return c;
        }
        if (c == -1) {
            s.signs = "";
            return 0;
        }
        if (s.kind == 5 && s.signs.length() == 14 || s.signs.length() == 30 || s.settings[1] > 0 && s.signs.length() == s.settings[1]) {
            throw new UnsupportedOperationException();
        }
        s.signs += (char) c;
        return s.signs.length();
    }

    int option(int field, int code) {
        Shared s = one(field).shared;
        argue((s.kind == 3 || s.kind == 4) && code >= 0 && code <= 99999 && !s.codes.contains(code));
        if (s.codes.size() == 12) {
            throw new UnsupportedOperationException();
        }
        s.codes.add(code);
        return s.codes.size() - 1;
    }

    int set(int field, int what, int v) {
        One o = noGroup(field);
        Shared s = o.shared;
        argue(what >= 0 && what <= 7);
        int[] most = {1, 30, 1, 3, 1, 100000, 100000, 2};
        argue(v >= 0 && v <= most[what]);
        argue(what != 1 || s.kind == 1);
        argue(what != 2 || s.kind == 3);
        argue(what != 3 && what != 4 || s.kind == 5);
        argue(what != 1 || v == 0 || v >= s.signs.length());
        int[] row = what >= 5 ? o.settings : s.settings;
        int at = what >= 5 ? what - 5 : what;
        int was = row[at];
        row[at] = v;
        return was;
    }

    int bounds(int field, long least, long most) {
        Shared s = one(field).shared;
        BigInteger low = BigInteger.valueOf(least);
        BigInteger high = BigInteger.valueOf(most);
        argue(s.kind == 5 && low.abs().compareTo(MOST) <= 0 && high.abs().compareTo(MOST) <= 0 && low.compareTo(high) <= 0);
        s.least = low;
        s.most = high;
        return 0;
    }

    int formula(int field, int op, int a, int b) {
        Shared s = one(field).shared;
        boolean kinds = s.kind == 5;
        if (op >= 0 && op <= 5) {
            int left = one(a).shared.kind;
            int right = one(b).shared.kind;
            kinds &= (left == 5 || left == 2) && (right == 5 || right == 2);
        }
        if (op == 6) {
            kinds &= one(a).shared.kind == 0;
        }
        argue(kinds && op >= -1 && op <= 7);
        int was = s.formula == null ? 0 : 1;
        s.formula = op == -1 ? null : new int[] {op, a, b};
        return was;
    }

    private static BigDecimal amount(Shared s) {
        if (s.kind == 2) {
            return new BigDecimal(s.picked);
        }
        if (s.signs.isEmpty()) {
            return BigDecimal.ZERO;
        }
        return s.signs.matches("-?[0-9]{1,9}([.][0-9]{1,3})?") ? new BigDecimal(s.signs) : null;
    }

    private Set<Integer> needs(Shared s) {
        Set<Integer> needed = new TreeSet<>();
        if (s.formula == null || s.formula[0] == 7) {
            return needed;
        }
        if (s.formula[0] == 6) {
            for (One o : all) {
                for (int up = o.parent; up != -1; up = all.get(up).parent) {
                    if (up == s.formula[1] && o.shared.kind == 5) {
                        needed.add(o.shared.master);
                    }
                }
            }
            return needed;
        }
        needed.add(all.get(s.formula[1]).shared.master);
        needed.add(all.get(s.formula[2]).shared.master);
        return needed;
    }

    private boolean comesBack(int from, int to, Set<Integer> seen) {
        for (int next : needs(all.get(from).shared)) {
            if (next == to || seen.add(next) && comesBack(next, to, seen)) {
                return true;
            }
        }
        return false;
    }

    private BigDecimal result(Shared s) {
        if (s.failing) {
            return null;
        }
        BigDecimal sum = BigDecimal.ZERO;
        for (int needed : needs(s)) {
            BigDecimal amount = amount(all.get(needed).shared);
            if (amount == null) {
                return null;
            }
            sum = sum.add(amount);
        }
        if (s.formula[0] == 7) {
            return new BigDecimal(s.formula[1]).movePointLeft(3);
        }
        if (s.formula[0] == 6) {
            return sum;
        }
        BigDecimal a = amount(all.get(s.formula[1]).shared);
        BigDecimal b = amount(all.get(s.formula[2]).shared);
        switch (s.formula[0]) {
            case 0:
                return a.add(b);
            case 1:
                return a.subtract(b);
            case 2:
                return a.multiply(b).setScale(3, RoundingMode.DOWN);
            case 3:
                return b.signum() == 0 ? null : a.divide(b, 3, RoundingMode.DOWN);
            case 4:
                return a.min(b);
            default:
                return a.max(b);
        }
    }

    int calculate() {
        for (One o : all) {
            if (o.shared.master == o.number && comesBack(o.number, o.number, new TreeSet<>())) {
                return -1 - o.number;
            }
        }
        Set<Integer> waiting = new TreeSet<>();
        for (Shared s : byName.values()) {
            if (s.formula != null) {
                waiting.add(s.master);
            }
        }
        failed = new ArrayList<>();
        int changed = 0;
        while (!waiting.isEmpty()) {
            int next = -1;
            for (int candidate : waiting) {
                Set<Integer> open = new TreeSet<>(needs(all.get(candidate).shared));
                open.retainAll(waiting);
                if (open.isEmpty()) {
                    next = candidate;
                    break;
                }
            }
            waiting.remove(next);
            Shared s = all.get(next).shared;
            BigDecimal result = result(s);
            if (result == null || result.movePointRight(3).abs().compareTo(new BigDecimal(MOST)) > 0) {
                failed.add(next);
                continue;
            }
            String signs = result.signum() == 0 ? "0" : result.stripTrailingZeros().toPlainString();
            changed += signs.equals(s.signs) ? 0 : 1;
            s.signs = signs;
        }
        return changed;
    }

    int failed(int i) {
        if (i == -1) {
            return failed.size();
        }
        if (i < 0 || i >= failed.size()) {
            throw new IndexOutOfBoundsException();
        }
        return failed.get(i);
    }

    int fails(int field, boolean on) {
        Shared s = one(field).shared;
        argue(s.kind == 5);
        int was = s.failing ? 1 : 0;
        s.failing = on;
        return was;
    }

    private static String show(Shared s) {
        switch (s.kind) {
            case 1:
                return s.signs;
            case 2:
                return s.picked == 1 ? "X" : "";
            case 3:
            case 4:
                return s.picked == -1 ? "" : "" + s.codes.get(s.picked);
            case 5:
                BigDecimal amount = amount(s);
                if (amount == null || s.signs.isEmpty()) {
                    return s.signs;
                }
                String plain = amount.setScale(s.settings[3], RoundingMode.HALF_UP).toPlainString();
                if (s.settings[4] == 1) {
                    int point = plain.indexOf('.') < 0 ? plain.length() : plain.indexOf('.');
                    for (int at = point - 3; at > (plain.startsWith("-") ? 1 : 0); at -= 3) {
                        plain = plain.substring(0, at) + "," + plain.substring(at);
                    }
                }
                return plain;
            default:
                return "";
        }
    }

    int shown(int field, int i) {
        String shown = show(one(field).shared);
        return i < 0 || i >= shown.length() ? -1 : shown.charAt(i);
    }

    int size(int field) {
        One o = noGroup(field);
        int cells = o.shared.settings[1];
        int signs = cells > 0 ? cells : show(o.shared).length();
        for (int size : new int[] {96, 48, 24, 12, 6}) {
            if (signs * size <= 2 * o.settings[0] && size * 5 / 4 <= o.settings[1]) {
                return size;
            }
        }
        return -6;
    }

    int validate(int field) {
        Shared s = noGroup(field).shared;
        boolean signs = s.kind == 1 || s.kind == 5;
        boolean empty = signs ? s.signs.isEmpty() : s.kind == 2 ? s.picked == 0 : s.picked == -1;
        if (s.settings[0] == 1 && empty) {
            return 2;
        }
        if (s.kind != 5 || empty) {
            return 1;
        }
        BigDecimal amount = amount(s);
        if (amount == null) {
            return 3;
        }
        BigDecimal thousandths = amount.movePointRight(3);
        return thousandths.compareTo(new BigDecimal(s.least)) < 0 ? 4 : thousandths.compareTo(new BigDecimal(s.most)) > 0 ? 5 : 1;
    }

    private List<int[]> marks(int field) {
        One o = noGroup(field);
        String shown = show(o.shared);
        int size = size(field) < 0 ? 6 : size(field);
        int width = o.settings[0];
        int cells = o.shared.settings[1];
        List<int[]> marks = new ArrayList<>();
        marks.add(new int[] {0, 0, 0, 0, field});
        int left = width - shown.length() * size / 2;
        int begin = o.settings[2] == 0 ? 0 : left / (3 - o.settings[2]);
        for (int k = 0; k < shown.length(); k++) {
            int x = cells == 0 ? begin + k * size / 2 : k * width / cells + (width / cells - size / 2) / 2;
            marks.add(new int[] {shown.charAt(k), x, (o.settings[1] - size) / 2, size, field});
        }
        return marks;
    }

    int appearance(int field) {
        made = marks(field);
        return made.size();
    }

    int mark(int i, int what) {
        if (i < 0 || i >= made.size() || what < 0 || what > 3) {
            throw new IndexOutOfBoundsException();
        }
        return made.get(i)[what];
    }

    int flatten(int field) {
        List<int[]> marks = marks(field);
        One o = one(field);
        if (o.flat) {
            throw new IllegalStateException();
        }
        if (page.size() + marks.size() > 400) {
            throw new UnsupportedOperationException();
        }
        page.addAll(marks);
        o.flat = true;
        return page.size();
    }

    int page(int i, int what) {
        if (i < 0 || i >= page.size() || what < 0 || what > 4) {
            throw new IndexOutOfBoundsException();
        }
        return page.get(i)[what];
    }

    int write() {
        StringBuilder out = new StringBuilder();
        for (Map.Entry<String, Shared> e : byName.entrySet()) {
            Shared s = e.getValue();
            if (s.kind != 0) {
                String value = s.kind == 1 || s.kind == 5 ? s.signs : s.kind == 2 ? "" + s.picked : show(s);
                out.append(e.getKey()).append('=').append(value).append('\n');
            }
        }
        data = out.toString();
        return data.length();
    }

    int at(int i) {
        if (i < 0 || i >= data.length()) {
            throw new ArrayIndexOutOfBoundsException();
        }
        return data.charAt(i);
    }

    int read(int c) {
        argue(c >= -1 && c <= 255);
        if (c >= 0) {
            if (input.length() == 3000) {
                throw new UnsupportedOperationException();
            }
            input += (char) c;
            return input.length();
        }
        String text = input;
        input = "";
        List<Runnable> changes = new ArrayList<>();
        for (int line = 0; !text.isEmpty(); line++) {
            int end = text.indexOf('\n');
            int equals = text.indexOf('=');
            if (end < 0 || equals < 0 || equals > end) {
                return -1 - line;
            }
            Shared s = byName.get(text.substring(0, equals));
            String value = s == null || s.kind == 0 || s.locked ? null : lineValue(s, text.substring(equals + 1, end));
            if (value == null) {
                return -1 - line;
            }
            changes.add(() -> take(s, value));
            text = text.substring(end + 1);
        }
        changes.forEach(Runnable::run);
        return changes.size();
    }

    private static void take(Shared s, String value) {
        if (s.kind == 1 || s.kind == 5) {
            s.signs = value;
        } else {
            s.picked = Integer.parseInt(value);
        }
    }

    int lock(int field, boolean on) {
        Shared s = noGroup(field).shared;
        int was = s.locked ? 1 : 0;
        s.locked = on;
        return was;
    }

    /** Lines for a reader: those that write() would make, before a test spoils them. */
    String wouldWrite() {
        String before = data;
        write();
        String now = data;
        data = before;
        return now;
    }

    int kindOf(int field) {
        return field < 0 || field >= all.size() ? -1 : all.get(field).shared.kind;
    }

    int count() {
        return all.size();
    }
}
