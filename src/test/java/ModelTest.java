import java.util.ArrayList;
import java.util.List;
import java.util.Random;

/** Runs of up to 512 calls drawn from fixed seeds: the class must answer each as the model does. */
public final class ModelTest {
    private static final int RUNS = 1500;
    private static final int CALLS = 512;
    private static final int THREW_INDEX = Integer.MIN_VALUE;
    private static final int THREW_ARGUMENT = Integer.MIN_VALUE + 1;
    private static final int THREW_STATE = Integer.MIN_VALUE + 2;

    private interface Call {
        int answer();
    }

    private NightTrains real;
    private Model model;
    private Random random;
    private final List<String> story = new ArrayList<>();

    public static void main(String[] args) {
        for (int seed = 0; seed < RUNS; seed++) {
            if (!new ModelTest().agrees(seed)) {
                System.exit(1);
            }
        }
        System.out.println("ModelTest: " + RUNS + " runs agree with the model");
    }

    private boolean agrees(int seed) {
        random = new Random(seed);
        real = new NightTrains();
        model = new Model();
        int eager = 1 + random.nextInt(12);
        for (int call = 0; call < CALLS; call++) {
            boolean same = random.nextInt(12) < eager ? step() : question();
            if (same && call % 16 == 0) {
                same = sameState();
            }
            if (!same) {
                System.out.println("run of seed " + seed + ": " + story);
                return false;
            }
        }
        return true;
    }

    /** Exact classes: what the machine throws by itself is a subclass of what the document names. */
    private static int outcome(Call call) {
        try {
            return call.answer();
        } catch (RuntimeException e) {
            if (e.getClass() == IndexOutOfBoundsException.class) {
                return THREW_INDEX;
            }
            if (e.getClass() == IllegalArgumentException.class) {
                return THREW_ARGUMENT;
            }
            if (e.getClass() == IllegalStateException.class) {
                return THREW_STATE;
            }
            throw e;
        }
    }

    private boolean compare(String name, Call got, Call due) {
        int want = outcome(due);
        int have = outcome(got);
        story.add(name + "=" + have);
        if (have != want) {
            System.out.println(name + " answered " + have + ", due is " + want);
        }
        return have == want;
    }

    private int near(int from, int to) {
        // Now and then a little or far outside the range.
        switch (random.nextInt(40)) {
            case 0:
                return from - 1;
            case 1:
                return to + 1;
            case 2:
                return random.nextInt();
            default:
                return from + random.nextInt(to - from + 1);
        }
    }

    private boolean step() {
        switch (random.nextInt(20)) {
            case 0:
            case 1:
            case 2:
            case 3:
            case 4:
            case 5:
            case 6:
            case 7:
                return ask();
            case 8:
            case 9:
            case 10:
                int n = random.nextInt(6) == 0 ? near(1, 30) : 1 + random.nextInt(2);
                return compare("nights(" + n + ")", () -> real.nights(n), () -> model.nights(n));
            case 11:
                int i = near(0, Math.max(0, model.about(1)));
                return compare("cancel(" + i + ")", () -> real.cancel(i), () -> model.cancel(i));
            case 12:
            case 13:
                int r = near(0, Math.max(0, model.about(1)));
                int by = near(1, 9);
                return compare("raise(" + r + "," + by + ")", () -> real.raise(r, by), () -> model.raise(r, by));
            case 14:
            case 15:
                int what = near(0, 4);
                int v = near(0, 9);
                return compare("set(" + what + "," + v + ")", () -> real.set(what, v), () -> model.set(what, v));
            case 16:
                int c = near(0, 3);
                int money = near(1, 100);
                return compare("give(" + c + "," + money + ")",
                        () -> real.give(c, money), () -> model.give(c, money));
            case 17:
                return compare("undo()", () -> real.undo(), () -> model.undo());
            case 18:
                int slot = near(0, 1);
                return random.nextInt(3) == 0
                        ? compare("restore(" + slot + ")", () -> real.restore(slot), () -> model.restore(slot))
                        : compare("save(" + slot + ")", () -> real.save(slot), () -> model.save(slot));
            default:
                return text();
        }
    }

    private boolean ask() {
        int c = near(0, 3);
        int l = random.nextBoolean() ? random.nextInt(5) : near(0, 15);
        int item = near(0, 7);
        int fee = random.nextBoolean() ? random.nextInt(3) : near(0, 9);
        return compare("ask(" + c + "," + l + "," + item + "," + fee + ")",
                () -> real.ask(c, l, item, fee), () -> model.ask(c, l, item, fee));
    }

    private boolean question() {
        int a = near(0, 15);
        int b = near(0, 4);
        int i = near(0, Math.max(0, model.about(1)));
        switch (random.nextInt(14)) {
            case 0:
                return compare("about(" + a + ")", () -> real.about(a), () -> model.about(a));
            case 1:
                return compare("order(" + i + "," + b + ")", () -> real.order(i, b), () -> model.order(i, b));
            case 2:
                return compare("lot(" + a + "," + b + ")", () -> real.lot(a, b), () -> model.lot(a, b));
            case 3:
                int c = near(0, 3);
                return compare("reader(" + c + "," + b + ")", () -> real.reader(c, b), () -> model.reader(c, b));
            case 4:
                int k = near(0, 9);
                return compare("delivered(" + k + "," + b + ")",
                        () -> real.delivered(k, b), () -> model.delivered(k, b));
            case 5:
                return compare("setting(" + b + ")", () -> real.setting(b), () -> model.setting(b));
            case 6:
                return compare("arrives(" + i + ")", () -> real.arrives(i), () -> model.arrives(i));
            case 7:
                return compare("next(" + b + ")", () -> real.next(b), () -> model.next(b));
            case 8:
                return compare("feeFor(" + a + ")", () -> real.feeFor(a), () -> model.feeFor(a));
            case 9:
                int n = near(0, random.nextBoolean() ? 6 : 60);
                return compare("would(" + n + "," + b + ")", () -> real.would(n, b), () -> model.would(n, b));
            case 10:
                return compare("bestRule()", () -> real.bestRule(), () -> model.bestRule());
            case 11:
                return compare("leastRoom()", () -> real.leastRoom(), () -> model.leastRoom());
            case 12:
                return script();
            default:
                long seed = random.nextLong();
                int m = near(1, 99);
                return compare("simulate(" + seed + "," + m + ")",
                        () -> real.simulate(seed, m), () -> model.simulate(seed, m));
        }
    }

    private boolean script() {
        int n = near(1, 3);
        long script = 0;
        for (int i = 0; i < Math.max(0, Math.min(n, 3)); i++) {
            script = script * 100000 + group();
        }
        if (random.nextInt(25) == 0) {
            script = random.nextLong();
        }
        long s = script;
        return compare("runScript(" + n + "," + s + ")", () -> real.runScript(n, s), () -> model.runScript(n, s));
    }

    private int group() {
        if (random.nextInt(12) == 0) {
            return random.nextInt(100000);
        }
        int tens = random.nextInt(2) * 100 + random.nextInt(10) * 10;
        switch (1 + random.nextInt(9)) {
            case 1:
                return 10000 + random.nextInt(4) * 1000 + tens + random.nextInt(10);
            case 2:
                return 20000 + tens * 10;
            case 3:
                return 30000 + tens * 10 + random.nextInt(10);
            case 4:
                return 40000 + random.nextInt(random.nextBoolean() ? 5 : 33);
            case 5:
                return 50000 + random.nextInt(6) * 1000 + random.nextInt(10) * 10;
            case 6:
                return 60000 + tens * 10 + random.nextInt(2);
            case 7:
                return 70000 + random.nextInt(5) * 1000 + about(2, 2);
            case 8:
                return 80000 + about(3, 1);
            default:
                return 90000 + about(5, 1);
        }
    }

    /** A number close to what the model counts, so that a comparison is tried at its edge. */
    private int about(int what, int part) {
        return Math.max(0, Math.min(99, model.about(what) / part + random.nextInt(3) - 1));
    }

    private boolean text() {
        switch (random.nextInt(4)) {
            case 0:
                return compare("errorPosition()", () -> real.errorPosition(), () -> model.errorPosition())
                        && compare("load()", () -> real.load(), () -> model.load());
            case 1:
                int c = near(0, 255);
                return compare("append(" + c + ")", () -> real.append(c), () -> model.append(c));
            case 2:
                return compare("clearText()", () -> real.clearText(), () -> model.clearText());
            default:
                return write(storeText());
        }
    }

    private boolean write(String signs) {
        boolean same = compare("clearText()", () -> real.clearText(), () -> model.clearText());
        for (int i = 0; i < signs.length() && same; i++) {
            int sign = signs.charAt(i);
            same = compare("append(" + sign + ")", () -> real.append(sign), () -> model.append(sign));
        }
        return same && compare("errorPosition()", () -> real.errorPosition(), () -> model.errorPosition());
    }

    private String storeText() {
        StringBuilder b = new StringBuilder("D");
        int[][] ranges = {{0, 4}, {1, 6}, {1, 9}, {1, 9}, {0, 2}};
        for (int[] range : ranges) {
            b.append(range[0] + random.nextInt(range[1] - range[0] + 1));
        }
        int commands = random.nextInt(22);
        for (int i = 0; i < commands; i++) {
            switch (random.nextInt(5)) {
                case 0:
                    b.append('n').append(1 + random.nextInt(9));
                    break;
                case 1:
                    b.append('c').append(random.nextInt(4) == 0 ? 1 : 0).append(random.nextInt(10));
                    break;
                default:
                    int lot = random.nextInt(random.nextBoolean() ? 4 : 16);
                    b.append('o').append(random.nextInt(4)).append(lot / 10).append(lot % 10)
                            .append(random.nextInt(8)).append(random.nextInt(10));
                    break;
            }
        }
        if (random.nextInt(3) == 0) {
            b.setCharAt(random.nextInt(b.length()), "Docn0123456789 x".charAt(random.nextInt(16)));
        }
        if (random.nextInt(3) == 0) {
            b.setLength(random.nextInt(b.length() + 1));
        }
        return b.toString();
    }

    private boolean sameState() {
        for (int what = 0; what <= 10; what++) {
            int w = what;
            if (!compare("about(" + w + ")", () -> real.about(w), () -> model.about(w))) {
                return false;
            }
        }
        return sameRows(model.about(1), 4, "order") && sameRows(16, 3, "lot") && sameRows(4, 3, "reader")
                && sameRows(10, 4, "delivered") && sameRows(5, 0, "setting");
    }

    private boolean sameRows(int rows, int mostWhat, String name) {
        for (int row = 0; row < rows; row++) {
            for (int what = 0; what <= mostWhat; what++) {
                int r = row;
                int w = what;
                String called = name + "(" + r + "," + w + ")";
                if (!compare(called, () -> ofReal(name, r, w), () -> ofModel(name, r, w))) {
                    return false;
                }
            }
        }
        return true;
    }

    private int ofReal(String name, int row, int what) {
        switch (name) {
            case "order":
                return real.order(row, what);
            case "lot":
                return real.lot(row, what);
            case "reader":
                return real.reader(row, what);
            case "delivered":
                return real.delivered(row, what);
            default:
                return real.setting(row);
        }
    }

    private int ofModel(String name, int row, int what) {
        switch (name) {
            case "order":
                return model.order(row, what);
            case "lot":
                return model.lot(row, what);
            case "reader":
                return model.reader(row, what);
            case "delivered":
                return model.delivered(row, what);
            default:
                return model.setting(row);
        }
    }
}
