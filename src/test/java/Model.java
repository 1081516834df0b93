import java.math.BigInteger;
import java.util.ArrayDeque;
import java.util.ArrayList;
import java.util.Deque;
import java.util.List;
import java.util.regex.Matcher;
import java.util.regex.Pattern;

/**
 * The document a second time, by trying and searching: no inverse, no rule that pairs
 * are enough, no automaton. Slow, and meant only to be compared with SharedModuli.
 */
final class Model {
    private static final int NONE = -1;
    private static final BigInteger LIMIT = BigInteger.TEN.pow(15);
    private static final String ONE = "([1-9][0-9]{0,2})?x=(0|[1-9][0-9]{0,2})%[1-9][0-9]{0,2}";
    private static final Pattern TEXT = Pattern.compile(ONE + "(;" + ONE + ")*");

    /** The least x that fulfils it, and how far those that do stand apart; NONE for both if void. */
    private record Condition(int a, int b, int m, boolean on, int least, int step) {
        static Condition of(int a, int b, int m) {
            int least = NONE;
            int met = 0;
            for (int x = m - 1; x >= 0; x--) {
                if ((a * x - b) % m == 0) {
                    least = x;
                    met++;
                }
            }
            return new Condition(a, b, m, true, least, met == 0 ? NONE : m / met);
        }

        boolean isMetBy(long x) {
            return (a * (x % m) - b) % m == 0;
        }

        boolean isVoid() {
            return least == NONE;
        }

        Condition switched(boolean then) {
            return new Condition(a, b, m, then, least, step);
        }
    }

    /** N and R. */
    private record Joint(BigInteger n, BigInteger r) {
        Joint with(Condition more) {
            if (more.isVoid()) {
                return null;
            }
            int step = more.step();
            int left = r.mod(BigInteger.valueOf(step)).intValue();
            int stride = n.mod(BigInteger.valueOf(step)).intValue();
            for (int t = 0; t < step; t++) {
                if ((left + t * stride) % step == more.least()) {
                    BigInteger then = lcm(n, step);
                    return new Joint(then, r.add(n.multiply(BigInteger.valueOf(t))).mod(then));
                }
            }
            return null;
        }
    }

    private List<Condition> list = new ArrayList<>();
    private final Deque<List<Condition>> saved = new ArrayDeque<>();
    private final StringBuilder buffer = new StringBuilder();

    private static BigInteger lcm(BigInteger n, int step) {
        BigInteger other = BigInteger.valueOf(step);
        return n.divide(n.gcd(other)).multiply(other);
    }

    private static Joint join(List<Condition> of) {
        Joint all = new Joint(BigInteger.ONE, BigInteger.ZERO);
        for (Condition one : of) {
            all = all == null ? null : all.with(one);
        }
        return all;
    }

    private static boolean isTooGreat(List<Condition> of) {
        BigInteger n = BigInteger.ONE;
        for (Condition one : of) {
            n = one.isVoid() ? n : lcm(n, one.step());
        }
        return n.compareTo(LIMIT) > 0;
    }

    private static boolean doAgree(Condition one, Condition other) {
        return join(List.of(one, other)) != null;
    }

    /** Whether all answers of the others fulfil it: a step's worth of them are tried. */
    private static boolean tell(List<Condition> others, Condition told) {
        Joint all = join(others);
        if (all == null) {
            return false;
        }
        for (int t = 0; t < told.m(); t++) {
            BigInteger x = all.r().add(all.n().multiply(BigInteger.valueOf(t)));
            if (!told.isMetBy(x.mod(BigInteger.valueOf(told.m())).longValue())) {
                return false;
            }
        }
        return true;
    }

    private List<Condition> on() {
        return onWithout(NONE);
    }

    private List<Condition> onWithout(int left) {
        List<Condition> found = new ArrayList<>();
        for (int k = 0; k < list.size(); k++) {
            if (list.get(k).on() && k != left) {
                found.add(list.get(k));
            }
        }
        return found;
    }

    private void save() {
        saved.addLast(new ArrayList<>(list));
        if (saved.size() > 6) {
            saved.removeFirst();
        }
    }

    private void needsIndex(int k) {
        if (k < 0 || k >= list.size()) {
            throw new IndexOutOfBoundsException();
        }
    }

    private static void needsArgument(boolean holds) {
        if (!holds) {
            throw new IllegalArgumentException();
        }
    }

    private static void needsState(boolean holds) {
        if (!holds) {
            throw new IllegalStateException();
        }
    }

    private static void needsParts(int a, int b, int m) {
        needsArgument(a >= 1 && a <= 999 && b >= 0 && b <= 999 && m >= 1 && m <= 999);
    }

    private static void needsNumber(long x) {
        needsArgument(x >= 0 && x <= 1000000000000000L);
    }

    private boolean isRefused(Condition more) {
        List<Condition> then = on();
        then.add(more);
        return list.size() >= 10 || isTooGreat(then);
    }

    int add(int a, int b, int m) {
        needsParts(a, b, m);
        Condition more = Condition.of(a, b, m);
        needsState(!isRefused(more));
        save();
        list.add(more);
        return list.size() - 1;
    }

    int remove(int k) {
        needsIndex(k);
        save();
        list.remove(k);
        return list.size();
    }

    int toggle(int k) {
        needsIndex(k);
        Condition then = list.get(k).switched(!list.get(k).on());
        List<Condition> others = onWithout(k);
        if (then.on()) {
            others.add(then);
            needsState(!isTooGreat(others));
        }
        save();
        list.set(k, then);
        return then.on() ? 1 : 0;
    }

    int bare(int k) {
        needsIndex(k);
        Condition old = list.get(k);
        needsState(!old.isVoid());
        save();
        list.set(k, Condition.of(1, old.least(), old.step()).switched(old.on()));
        return old.step();
    }

    int thin() {
        needsState(join(on()) != null);
        save();
        int before = on().size();
        for (int k = 0; k < list.size(); k++) {
            if (list.get(k).on() && tell(onWithout(k), list.get(k))) {
                list.set(k, list.get(k).switched(false));
            }
        }
        return before - on().size();
    }

    int agree() {
        int mask = most();
        List<Condition> then = new ArrayList<>();
        List<Condition> chosen = new ArrayList<>();
        for (int k = 0; k < list.size(); k++) {
            boolean in = (mask >> k & 1) == 1;
            then.add(list.get(k).switched(in));
            if (in) {
                chosen.add(list.get(k));
            }
        }
        needsState(!isTooGreat(chosen));
        save();
        list = then;
        return chosen.size();
    }

    int append(int code) {
        needsArgument(code >= 33 && code <= 126);
        needsState(buffer.length() < 60);
        buffer.append((char) code);
        return buffer.length();
    }

    int clearBuffer() {
        int before = buffer.length();
        buffer.setLength(0);
        return before;
    }

    int firstError() {
        for (int k = 0; k < buffer.length(); k++) {
            Matcher matcher = TEXT.matcher(buffer.substring(0, k + 1));
            if (!matcher.matches() && !matcher.hitEnd()) {
                return k;
            }
        }
        return buffer.length();
    }

    int read() {
        needsArgument(TEXT.matcher(buffer).matches());
        save();
        int added = 0;
        for (String text : buffer.toString().split(";")) {
            String[] parts = text.split("x=|%");
            int a = parts[0].isEmpty() ? 1 : Integer.parseInt(parts[0]);
            Condition more = Condition.of(a, Integer.parseInt(parts[1]), Integer.parseInt(parts[2]));
            if (isRefused(more)) {
                break;
            }
            list.add(more);
            added++;
        }
        buffer.setLength(0);
        return added;
    }

    int undo() {
        needsState(!saved.isEmpty());
        list = saved.removeLast();
        return saved.size();
    }

    int condition(int k, int what) {
        needsIndex(k);
        needsArgument(what >= 0 && what <= 8);
        Condition one = list.get(k);
        int[] plain = {one.a(), one.b(), one.m(), one.on() ? 1 : 0, one.isVoid() ? 1 : 0, one.step(), one.least()};
        if (what < 7) {
            return plain[what];
        }
        if (what == 8) {
            return one.on() && tell(onWithout(k), one) ? 1 : 0;
        }
        int against = 0;
        for (Condition other : onWithout(k)) {
            against += doAgree(one, other) ? 0 : 1;
        }
        return against;
    }

    int agrees(int one, int other) {
        needsIndex(one);
        needsIndex(other);
        return doAgree(list.get(one), list.get(other)) ? 1 : 0;
    }

    private static long part(Joint all, int what) {
        return all == null ? NONE : (what == 0 ? all.n() : all.r()).longValueExact();
    }

    long joined(int what) {
        needsArgument(what == 0 || what == 1);
        return part(join(on()), what);
    }

    int count(int what) {
        needsArgument(what >= 0 && what <= 6);
        int voids = 0;
        int pairs = 0;
        int told = 0;
        for (int k = 0; k < list.size(); k++) {
            voids += list.get(k).isVoid() ? 1 : 0;
            told += condition(k, 8);
            for (int other = 0; other < k; other++) {
                boolean both = list.get(k).on() && list.get(other).on();
                pairs += both && !doAgree(list.get(k), list.get(other)) ? 1 : 0;
            }
        }
        int possible = join(on()) == null ? 0 : 1;
        return new int[] {list.size(), on().size(), voids, pairs, possible, told, saved.size()}[what];
    }

    private static int powerOf(int p, int n) {
        int power = 1;
        while (n % (power * p) == 0) {
            power *= p;
        }
        return power;
    }

    int prime(int p, int what) {
        needsArgument(p >= 2 && p <= 31 && BigInteger.valueOf(p).isProbablePrime(50) && what >= 0 && what <= 3);
        int strongest = NONE;
        int greatest = 1;
        for (int k = 0; k < list.size(); k++) {
            Condition one = list.get(k);
            if (one.on() && !one.isVoid() && powerOf(p, one.step()) > greatest) {
                strongest = k;
                greatest = powerOf(p, one.step());
            }
        }
        int rest = strongest == NONE ? 0 : list.get(strongest).least() % greatest;
        int against = 0;
        for (Condition one : on()) {
            if (strongest != NONE && !one.isVoid()) {
                int lesser = Math.min(greatest, powerOf(p, one.step()));
                against += one.least() % lesser == list.get(strongest).least() % lesser ? 0 : 1;
            }
        }
        return new int[] {strongest, greatest, rest, against}[what];
    }

    /** The least t for which r + t * n is at least from; below 0 it may be. */
    private static BigInteger turns(Joint all, long from) {
        BigInteger gap = BigInteger.valueOf(from).subtract(all.r());
        BigInteger[] parts = gap.divideAndRemainder(all.n());
        return parts[1].signum() > 0 ? parts[0].add(BigInteger.ONE) : parts[0];
    }

    private static long at(Joint all, BigInteger turn) {
        return all.r().add(all.n().multiply(turn)).longValueExact();
    }

    long answer(long from, int index) {
        needsNumber(from);
        needsArgument(index >= 0 && index <= 99);
        Joint all = join(on());
        return all == null ? NONE : at(all, turns(all, from).add(BigInteger.valueOf(index)));
    }

    long nearest(long to) {
        needsNumber(to);
        Joint all = join(on());
        if (all == null) {
            return NONE;
        }
        BigInteger turn = turns(all, to);
        long best = at(all, turn);
        if (turn.signum() > 0) {
            long below = at(all, turn.subtract(BigInteger.ONE));
            best = Math.abs(to - below) > Math.abs(best - to) ? best : below;
        }
        return best;
    }

    long between(long from, long to) {
        needsNumber(from);
        needsNumber(to);
        Joint all = join(on());
        return all == null || to < from ? 0 : turns(all, to + 1).subtract(turns(all, from)).longValueExact();
    }

    int misses(long x) {
        needsNumber(x);
        int missed = 0;
        for (Condition one : on()) {
            missed += one.isMetBy(x) ? 0 : 1;
        }
        return missed;
    }

    long ifAdded(int a, int b, int m, int what) {
        needsParts(a, b, m);
        needsArgument(what >= 0 && what <= 3);
        Condition more = Condition.of(a, b, m);
        if (isRefused(more)) {
            return NONE;
        }
        List<Condition> then = on();
        int against = 0;
        for (Condition other : then) {
            against += doAgree(more, other) ? 0 : 1;
        }
        if (what == 2) {
            return against;
        }
        if (what == 3) {
            return tell(then, more) ? 1 : 0;
        }
        then.add(more);
        return part(join(then), what);
    }

    long without(int k, int what) {
        needsIndex(k);
        needsArgument(what == 0 || what == 1);
        return part(join(onWithout(k)), what);
    }

    int most() {
        return mostFrom(list.size() - 1, new Joint(BigInteger.ONE, BigInteger.ZERO), 0);
    }

    /** Of the sets that are this mask and some of the conditions up to k. */
    private int mostFrom(int k, Joint all, int mask) {
        if (k < 0) {
            return mask;
        }
        int best = mostFrom(k - 1, all, mask);
        Joint more = all.with(list.get(k));
        if (more != null) {
            int other = mostFrom(k - 1, more, mask | 1 << k);
            int size = Integer.compare(Integer.bitCount(other), Integer.bitCount(best));
            best = size > 0 || size == 0 && other < best ? other : best;
        }
        return best;
    }

    int blame() {
        if (join(on()) != null) {
            return NONE;
        }
        int blamed = NONE;
        int most = -1;
        for (int k = 0; k < list.size(); k++) {
            if (list.get(k).on()) {
                int against = list.get(k).isVoid() ? on().size() : condition(k, 7);
                if (against > most) {
                    most = against;
                    blamed = k;
                }
            }
        }
        return blamed;
    }

    double density() {
        Joint all = join(on());
        return all == null ? 0.0 : 1.0 / all.n().doubleValue();
    }

    long digest() {
        List<Long> values = new ArrayList<>();
        for (int what = 0; what <= 6; what++) {
            values.add((long) count(what));
        }
        values.add(joined(0));
        values.add(joined(1));
        for (int k = 0; k < list.size(); k++) {
            for (int what = 0; what <= 8; what++) {
                values.add((long) condition(k, what));
            }
            for (int other = 0; other < list.size(); other++) {
                values.add((long) agrees(k, other));
            }
            values.add(without(k, 0));
            values.add(without(k, 1));
        }
        for (int p : new int[] {2, 3, 5, 7, 11, 13}) {
            for (int what = 0; what <= 3; what++) {
                values.add((long) prime(p, what));
            }
        }
        values.addAll(List.of(answer(0, 0), answer(0, 1), answer(0, 2), answer(1000, 0)));
        values.addAll(List.of(nearest(500), between(0, 9999), (long) misses(0), (long) misses(100)));
        for (int what = 0; what <= 3; what++) {
            values.add(ifAdded(3, 1, 10, what));
        }
        values.addAll(List.of((long) most(), (long) blame(), Double.doubleToLongBits(density())));
        values.add((long) buffer.length());
        for (int k = 0; k < buffer.length(); k++) {
            values.add((long) buffer.charAt(k));
        }
        long hash = 2791;
        for (long value : values) {
            hash = 31 * hash + value;
        }
        return hash;
    }
}
