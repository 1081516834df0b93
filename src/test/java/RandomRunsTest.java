import java.util.Random;

/** The same runs of calls on SharedModuli and on the Model, by a fixed row of seeds. */
public final class RandomRunsTest {
    private static final int RUNS = 250;

    /** A step takes some fifty calls at most: nothing is promised after the 512th. */
    private static final int CALLS = 460;
    private static final int[] MODULI = {1, 2, 3, 4, 5, 6, 8, 9, 10, 12, 15, 16, 18, 20, 24, 27, 30, 36, 48, 60, 64,
        72, 81, 96, 120, 125, 128, 243, 343, 360, 512, 720, 840, 990, 961, 841, 999};
    private static final int[] GREAT = {997, 991, 983, 977, 971, 967, 953, 947, 941, 937, 929, 919, 998, 996};
    private static final String SIGNS = "0123456789xx==%%;;0011y!~";

    private final Check check;
    private final Random random;
    private final boolean great;
    private SharedModuli real = new SharedModuli();
    private Model model = new Model();
    private int calls = 0;

    private RandomRunsTest(Check check, int seed) {
        this.check = check;
        random = new Random(seed);
        great = seed % 4 == 0;
    }

    public static void main(String[] args) {
        Check check = new Check("RandomRunsTest");
        for (int seed = 0; seed < RUNS; seed++) {
            new RandomRunsTest(check, seed).run(seed);
        }
        check.end();
    }

    private void run(int seed) {
        for (int step = 0; calls < CALLS; step++) {
            String at = "seed " + seed + " step " + step;
            step(at);
            if (step % 4 == 0) {
                calls++;
                check.due(at + " digest", real.digest(), model.digest());
            }
        }
    }

    private static String told(Check.Call call) {
        try {
            return Long.toString(call.answer());
        } catch (RuntimeException e) {
            return "throws." + e.getClass().getSimpleName();
        }
    }

    private void same(String name, Check.Call ofReal, Check.Call ofModel) {
        calls++;
        String got = told(ofReal);
        String due = told(ofModel);
        check.isTrue(name + " answered " + got + ", the model " + due, got.equals(due));
    }

    private int upTo(int greatest) {
        return random.nextInt(greatest + 1);
    }

    private int modulus() {
        int kind = upTo(20);
        if (kind == 0) {
            return upTo(2) * 500;
        }
        if (great && kind < 14) {
            return GREAT[random.nextInt(GREAT.length)];
        }
        return kind < 4 ? 1 + upTo(998) : MODULI[random.nextInt(MODULI.length)];
    }

    private int factor() {
        int kind = upTo(20);
        return kind == 0 ? upTo(1) * 1000 : kind < 12 ? 1 : kind < 18 ? 1 + upTo(12) : 1 + upTo(998);
    }

    private int remainder() {
        int kind = upTo(20);
        return kind == 0 ? upTo(1001) - 1 : kind < 15 ? upTo(4) : upTo(999);
    }

    private long number() {
        switch (upTo(7)) {
            case 0: return upTo(3) - 1;
            case 1: return 1000000000000000L + upTo(2) - 1;
            case 2: return (random.nextLong() & Long.MAX_VALUE) % 1000000000000001L;
            case 3: return upTo(1000000);
            default: return upTo(2000);
        }
    }

    private int index() {
        return upTo(11) - 1;
    }

    private void step(String at) {
        switch (upTo(12)) {
            case 0: case 1: case 2: case 3: change(at); break;
            case 4: switches(at); break;
            case 5: case 6: text(at); break;
            case 7: case 8: look(at); break;
            case 9: case 10: askAnswers(at); break;
            default: askWhatWouldBe(at);
        }
    }

    private void change(String at) {
        int a = factor();
        int b = remainder();
        int m = modulus();
        int k = index();
        switch (upTo(7)) {
            case 0: same(at + " remove " + k, () -> real.remove(k), () -> model.remove(k)); break;
            case 1: same(at + " toggle " + k, () -> real.toggle(k), () -> model.toggle(k)); break;
            case 2: same(at + " bare " + k, () -> real.bare(k), () -> model.bare(k)); break;
            default:
                same(at + " add " + a + " " + b + " " + m, () -> real.add(a, b, m), () -> model.add(a, b, m));
        }
    }

    private void switches(String at) {
        int k = index();
        switch (upTo(4)) {
            case 0: same(at + " thin", () -> real.thin(), () -> model.thin()); break;
            case 1: same(at + " agree", () -> real.agree(), () -> model.agree()); break;
            case 2: same(at + " undo", () -> real.undo(), () -> model.undo()); break;
            default: same(at + " toggle " + k, () -> real.toggle(k), () -> model.toggle(k));
        }
    }

    private void text(String at) {
        String text = upTo(1) == 0 ? someText() : someSigns();
        for (int k = 0; k < text.length(); k++) {
            int code = text.charAt(k);
            same(at + " append " + code, () -> real.append(code), () -> model.append(code));
        }
        same(at + " firstError", () -> real.firstError(), () -> model.firstError());
        switch (upTo(4)) {
            case 0: break;
            case 1: same(at + " clearBuffer", () -> real.clearBuffer(), () -> model.clearBuffer()); break;
            default: same(at + " read", () -> real.read(), () -> model.read());
        }
    }

    private String someText() {
        StringBuilder text = new StringBuilder();
        for (int k = upTo(3); k >= 0; k--) {
            text.append(upTo(2) == 0 ? Integer.toString(factor()) : "").append("x=").append(remainder());
            text.append('%').append(modulus()).append(k == 0 && upTo(8) > 0 ? "" : ";");
        }
        return text.toString();
    }

    private String someSigns() {
        StringBuilder text = new StringBuilder();
        for (int k = upTo(12); k >= 0; k--) {
            text.append(SIGNS.charAt(random.nextInt(SIGNS.length())));
        }
        return text.toString();
    }

    private void look(String at) {
        int k = index();
        int other = index();
        int what = upTo(10) - 1;
        int p = upTo(33);
        switch (upTo(5)) {
            case 0: same(at + " agrees", () -> real.agrees(k, other), () -> model.agrees(k, other)); break;
            case 1: same(at + " joined", () -> real.joined(what), () -> model.joined(what)); break;
            case 2: same(at + " count", () -> real.count(what), () -> model.count(what)); break;
            case 3: same(at + " prime " + p, () -> real.prime(p, what), () -> model.prime(p, what)); break;
            default: same(at + " condition", () -> real.condition(k, what), () -> model.condition(k, what));
        }
    }

    private void askAnswers(String at) {
        long x = number();
        long y = number();
        int index = upTo(5) == 0 ? upTo(101) - 1 : upTo(3);
        same(at + " answer " + x + " " + index, () -> real.answer(x, index), () -> model.answer(x, index));
        same(at + " nearest " + x, () -> real.nearest(x), () -> model.nearest(x));
        same(at + " between " + x + " " + y, () -> real.between(x, y), () -> model.between(x, y));
        same(at + " misses " + x, () -> real.misses(x), () -> model.misses(x));
    }

    private void askWhatWouldBe(String at) {
        int a = factor();
        int b = remainder();
        int m = modulus();
        int k = index();
        int what = upTo(5) - 1;
        String call = at + " ifAdded " + a + " " + b + " " + m + " " + what;
        same(call, () -> real.ifAdded(a, b, m, what), () -> model.ifAdded(a, b, m, what));
        same(at + " without " + k + " " + what, () -> real.without(k, what), () -> model.without(k, what));
        same(at + " most", () -> real.most(), () -> model.most());
        same(at + " blame", () -> real.blame(), () -> model.blame());
        check.dueDouble(at + " density", real.density(), model.density());
    }
}
