import java.util.Random;

/** Long runs of calls, each answered by the program and by the model. */
public final class ModelTest {
    private static final int RUNS = 4000;
    private static final int CALLS = 512;

    private final Random random;
    private final Model model = new Model();
    private final FormFields form = new FormFields();
    private final StringBuilder told = new StringBuilder();
    private int calls = 0;

    private ModelTest(long seed) {
        random = new Random(seed);
    }

    public static void main(String[] args) {
        long runs = args.length > 0 ? Long.parseLong(args[0]) : RUNS;
        for (long seed = 1; seed <= runs && Check.wrong() == 0; seed++) {
            new ModelTest(seed).run();
        }
        Check.end();
    }

    private static String answer(Check.Call call) {
        try {
            return Long.toString(call.answer());
        } catch (RuntimeException e) {
            return e.getClass().getName();
        }
    }

    private void both(String what, Check.Call due, Check.Call got) {
        calls++;
        String want = answer(due);
        String is = answer(got);
        told.append(what).append(" -> ").append(want).append('\n');
        if (!want.equals(is)) {
            System.out.println(told);
        }
        Check.same(what, want, is);
    }

    private int pick(int... from) {
        return from[random.nextInt(from.length)];
    }

    private int anyField() {
        if (random.nextInt(30) == 0) {
            return pick(-2, -1, model.count(), 40, Integer.MIN_VALUE, Integer.MAX_VALUE);
        }
        return model.count() == 0 ? 0 : random.nextInt(model.count());
    }

    /** A field of the kind, if some tries find one. */
    private int fieldOf(int kind) {
        int field = anyField();
        for (int i = 0; i < 20 && model.kindOf(field) != kind; i++) {
            field = anyField();
        }
        return field;
    }

    private void run() {
        int style = random.nextInt(4);
        while (calls < CALLS && Check.wrong() == 0) {
            step(style);
        }
    }

    private void step(int style) {
        int fieldWeight = model.count() < 6 ? 60 : 4;
        int roll = random.nextInt(100 + fieldWeight);
        if (roll >= 100) {
            newField(style);
        } else if (roll < 30) {
            newValue();
        } else if (roll < 40) {
            settle();
        } else if (roll < 55) {
            reckon();
        } else if (roll < 85) {
            look();
        } else {
            exchange();
        }
    }

    private void newField(int style) {
        int parent = random.nextInt(3) == 0 ? -1 : random.nextInt(3) == 0 ? anyField() : fieldOf(0);
        int kind = style == 1 ? pick(0, 5, 5, 2) : style == 2 ? pick(0, 1, 3, 4) : random.nextInt(6);
        int name = random.nextInt(40) == 0 ? pick(-1, 999, 1000, 100) : random.nextInt(style == 3 ? 40 : 4);
        int k = random.nextInt(50) == 0 ? pick(-1, 6) : kind;
        both("field(" + parent + ", " + k + ", " + name + ")", () -> model.field(parent, k, name), () -> form.field(parent, k, name));
    }

    private void told(int field, int c) {
        both("value(" + field + ", " + c + ")", () -> model.value(field, c), () -> form.value(field, c));
    }

    private void newValue() {
        int field = anyField();
        switch (model.kindOf(field)) {
            case 1:
                int count = random.nextInt(8) == 0 ? 31 : random.nextInt(4);
                for (int i = 0; i < count; i++) {
                    told(field, random.nextInt(30) == 0 ? pick(31, 127, -2) : 32 + random.nextInt(95));
                }
                if (random.nextInt(6) == 0) {
                    told(field, -1);
                }
                break;
            case 5:
                newNumber(field);
                break;
            case 2:
                told(field, random.nextInt(20) == 0 ? pick(-1, 2) : random.nextInt(2));
                break;
            case 3:
            case 4:
                int code = random.nextInt(20) == 0 ? pick(-1, 100000, 99999) : random.nextInt(15);
                both("option(" + field + ", " + code + ")", () -> model.option(field, code), () -> form.option(field, code));
                told(field, random.nextInt(8) - 2);
                break;
            default:
                told(field, pick(-1, 0, 1, 48));
                both("option(" + field + ", 1)", () -> model.option(field, 1), () -> form.option(field, 1));
                break;
        }
    }

    private void newNumber(int field) {
        if (random.nextInt(3) > 0) {
            told(field, -1);
        }
        String signs = random.nextBoolean() ? "" : "-";
        int whole = pick(1, 1, 2, 4, 9, 10);
        for (int i = 0; i < whole; i++) {
            signs += random.nextInt(3) == 0 ? "9" : "" + random.nextInt(10);
        }
        int part = pick(0, 1, 2, 3, 3, 4);
        if (part > 0) {
            signs += ".";
        }
        for (int i = 0; i < part; i++) {
            signs += pick(0, 4, 5, 9);
        }
        if (random.nextInt(15) == 0) {
            signs += (char) pick('-', '.', ',', '/');
        }
        for (char c : signs.toCharArray()) {
            told(field, c);
        }
    }

    private void settle() {
        int field = anyField();
        switch (random.nextInt(6)) {
            case 0:
                boolean on = random.nextInt(3) == 0;
                both("lock(" + field + ", " + on + ")", () -> model.lock(field, on), () -> form.lock(field, on));
                break;
            case 1:
                long least = bound();
                long most = bound();
                int number = fieldOf(5);
                both("bounds(" + number + ", " + least + ", " + most + ")", () -> model.bounds(number, least, most), () -> bound(number, least, most));
                break;
            default:
                int what = random.nextInt(30) == 0 ? pick(-1, 8) : random.nextInt(8);
                int of = what == 1 ? fieldOf(1) : what == 2 ? fieldOf(3) : what == 3 || what == 4 ? fieldOf(5) : field;
                int v = settingValue(what);
                both("set(" + of + ", " + what + ", " + v + ")", () -> model.set(of, what, v), () -> form.set(of, what, v));
                break;
        }
    }

    private int settingValue(int what) {
        if (random.nextInt(20) == 0) {
            return pick(-1, 2, 3, 4, 31, 100001);
        }
        switch (what) {
            case 1:
                return random.nextInt(31);
            case 3:
                return random.nextInt(4);
            case 5:
                return pick(0, 3, random.nextInt(100), random.nextInt(400), random.nextInt(2000), 100000);
            case 6:
                return pick(0, 6, 7, 15, 30, 60, 119, 120, random.nextInt(200), 100000);
            case 7:
                return random.nextInt(3);
            default:
                return random.nextInt(2);
        }
    }

    private long bound() {
        switch (random.nextInt(5)) {
            case 0:
                return 999999999999L * (random.nextInt(3) - 1) + random.nextInt(3) - 1;
            case 1:
                return random.nextLong();
            default:
                return random.nextInt(20000) - 10000;
        }
    }

    private long bound(int field, long least, long most) {
        form.bounds(field, least, most);
        return 0;
    }

    private void reckon() {
        switch (random.nextInt(6)) {
            case 0:
            case 1:
                newFormula();
                break;
            case 2:
                int field = fieldOf(5);
                boolean on = random.nextInt(3) == 0;
                both("fails(" + field + ", " + on + ")", () -> model.fails(field, on), () -> form.fails(field, on));
                break;
            case 3:
                int i = random.nextInt(6) - 2;
                both("failed(" + i + ")", () -> model.failed(i), () -> form.failed(i));
                break;
            default:
                both("calculate()", () -> model.calculate(), () -> form.calculate());
                break;
        }
    }

    private void newFormula() {
        int field = fieldOf(5);
        int op = random.nextInt(30) == 0 ? pick(-2, 8) : random.nextInt(10) < 2 ? -1 : random.nextInt(8);
        int a = op == 6 ? fieldOf(0) : op == 7 ? random.nextInt() >> random.nextInt(32) : fieldOf(pick(2, 5, 5));
        int b = fieldOf(pick(2, 5, 5));
        both("formula(" + field + ", " + op + ", " + a + ", " + b + ")", () -> model.formula(field, op, a, b), () -> form.formula(field, op, a, b));
    }

    private void look() {
        int field = anyField();
        switch (random.nextInt(7)) {
            case 0:
                both("size(" + field + ")", () -> model.size(field), () -> form.size(field));
                break;
            case 1:
                both("validate(" + field + ")", () -> model.validate(field), () -> form.validate(field));
                break;
            case 2:
                both("appearance(" + field + ")", () -> model.appearance(field), () -> form.appearance(field));
                break;
            case 3:
                if (random.nextInt(4) == 0) {
                    both("flatten(" + field + ")", () -> model.flatten(field), () -> form.flatten(field));
                }
                break;
            case 4:
                int i = random.nextInt(12) - 1;
                int what = random.nextInt(7) - 1;
                both("mark(" + i + ", " + what + ")", () -> model.mark(i, what), () -> form.mark(i, what));
                break;
            case 5:
                int j = random.nextInt(60) - 1;
                int part = random.nextInt(7) - 1;
                both("page(" + j + ", " + part + ")", () -> model.page(j, part), () -> form.page(j, part));
                break;
            default:
                for (int n = -1; n < pick(2, 5, 18); n++) {
                    int at = n;
                    both("shown(" + field + ", " + at + ")", () -> model.shown(field, at), () -> form.shown(field, at));
                }
                break;
        }
    }

    private void exchange() {
        if (random.nextInt(3) == 0) {
            both("write()", () -> model.write(), () -> form.write());
            for (int n = 0; n < 20; n++) {
                int at = random.nextInt(100) - 1;
                both("at(" + at + ")", () -> model.at(at), () -> form.at(at));
            }
            return;
        }
        if (random.nextInt(3) > 0) {
            return;
        }
        String[] lines = model.wouldWrite().split("(?<=\n)");
        StringBuilder sent = new StringBuilder();
        for (int n = random.nextInt(4); n >= 0; n--) {
            sent.append(lines[random.nextInt(lines.length)]);
        }
        for (int n = random.nextInt(3); n > 0 && sent.length() > 0; n--) {
            spoil(sent);
        }
        for (int n = 0; n < sent.length(); n++) {
            int c = sent.charAt(n);
            both("read(" + c + ")", () -> model.read(c), () -> form.read(c));
        }
        both("read(-1)", () -> model.read(-1), () -> form.read(-1));
        both("read(256)", () -> model.read(256), () -> form.read(256));
        both("write()", () -> model.write(), () -> form.write());
    }

    private void spoil(StringBuilder sent) {
        int at = random.nextInt(sent.length());
        char c = (char) pick('0', '1', '2', '7', '.', '=', '\n', 'a', ' ', '-', 255);
        switch (random.nextInt(5)) {
            case 0:
                sent.deleteCharAt(at);
                break;
            case 1:
                sent.setCharAt(at, c);
                break;
            case 2:
                int end = sent.indexOf("\n");
                sent.insert(end < 0 ? at : end, c);
                break;
            case 3:
                int equals = sent.indexOf("=");
                int stop = sent.indexOf("\n");
                if (equals >= 0 && stop > equals) {
                    sent.replace(equals + 1, stop, random.nextBoolean() ? "" : "" + random.nextInt(15));
                }
                break;
            default:
                sent.insert(at, c);
                break;
        }
    }
}
