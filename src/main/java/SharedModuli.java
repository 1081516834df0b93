/**
 * Conditions on a whole number, each with a factor, a remainder and a modulus;
 * the moduli may share factors. ../shared/DOC.md tells what each call promises.
 */
public final class SharedModuli {
    public static final int NONE = -1;

    private static final int CONDITIONS = 10;
    private static final int SAVED_STATES = 6;
    private static final int BUFFER_SIZE = 60;
    private static final int GREATEST_PART = 999;
    private static final int GREATEST_INDEX = 99;
    private static final int GREATEST_PRIME = 31;
    private static final long GREATEST = 1000000000000000L;

    /** No number up to GREATEST_PART has more prime factors. */
    private static final int MOST_FACTORS = 9;

    /** Far above what Euclid's way needs for numbers up to GREATEST times GREATEST_PART. */
    private static final int EUCLID_STEPS = 200;

    private static final long DIGEST_START = 2791;
    private static final int[] DIGEST_PRIMES = {2, 3, 5, 7, 11, 13};
    private static final int DOUBLE_BIAS = 1023;
    private static final int DOUBLE_FRACTION_BITS = 52;

    private final State now;
    private final State[] saved;
    private int oldestSaved;
    private int savedStates;
    private final int[] buffer;
    private int length;
    private final Scanner scanner;
    private final Joint joint;

    public SharedModuli() {
        Condition blank = new Condition(1, 0, 1);
        now = new State(blank);
        saved = new State[SAVED_STATES];
        for (int k = 0; k < saved.length; k++) {
            saved[k] = new State(blank);
        }
        oldestSaved = 0;
        savedStates = 0;
        buffer = new int[BUFFER_SIZE];
        length = 0;
        scanner = new Scanner();
        joint = new Joint();
    }

    // ---- conditions

    public int add(int a, int b, int m) throws IllegalArgumentException, IllegalStateException {
        if (!areParts(a, b, m)) {
            throw new IllegalArgumentException("a factor, remainder or modulus is out of range");
        }
        Condition more = new Condition(a, b, m);
        if (isRefused(more)) {
            throw new IllegalStateException("there are 10 conditions, or N would be too great");
        }
        save();
        return now.put(more);
    }

    public int remove(int condition) throws IndexOutOfBoundsException {
        if (!now.has(condition)) {
            throw new IndexOutOfBoundsException("there is no such condition");
        }
        save();
        now.drop(condition);
        return now.size;
    }

    public int toggle(int condition) throws IndexOutOfBoundsException, IllegalStateException {
        if (!now.has(condition)) {
            throw new IndexOutOfBoundsException("there is no such condition");
        }
        int then = now.on ^ bit(condition);
        if (now.span(then) > GREATEST) {
            throw new IllegalStateException("N would be too great");
        }
        save();
        now.on = then;
        return now.isOn(condition) ? 1 : 0;
    }

    public int bare(int condition) throws IndexOutOfBoundsException, IllegalStateException {
        if (!now.has(condition)) {
            throw new IndexOutOfBoundsException("there is no such condition");
        }
        Condition old = now.at(condition);
        if (old.isVoid()) {
            throw new IllegalStateException("the condition is void");
        }
        save();
        now.replace(condition, new Condition(1, old.bareRemainder, old.bareModulus));
        return old.bareModulus;
    }

    public int thin() throws IllegalStateException {
        if (!now.arePossible(now.on)) {
            throw new IllegalStateException("the conditions that are on are not possible together");
        }
        save();
        int switched = 0;
        for (int k = 0; k < now.size; k++) {
            if (isTold(k)) {
                now.on &= ~bit(k);
                switched++;
            }
        }
        return switched;
    }

    public int agree() throws IllegalStateException {
        int then = most();
        if (now.span(then) > GREATEST) {
            throw new IllegalStateException("N would be too great");
        }
        save();
        now.on = then;
        return Integer.bitCount(then);
    }

    // ---- texts

    public int append(int code) throws IllegalArgumentException, IllegalStateException {
        if (code < 33 || code > 126) {
            throw new IllegalArgumentException("the character code is not 33 to 126");
        }
        if (length < 0 || length >= buffer.length) {
            throw new IllegalStateException("the buffer has 60 characters");
        }
        buffer[length] = code;
        length++;
        return length;
    }

    public int clearBuffer() {
        int before = length;
        length = 0;
        return before;
    }

    public int firstError() {
        scanner.start();
        for (int k = 0; k < length; k++) {
            if (!scanner.takes(codeAt(k))) {
                return k;
            }
        }
        return length;
    }

    public int read() throws IllegalArgumentException {
        if (firstError() < length || !scanner.isComplete()) {
            throw new IllegalArgumentException("the buffer does not tell conditions as a text");
        }
        save();
        int added = readConditions();
        length = 0;
        return added;
    }

    public int undo() throws IllegalStateException {
        if (savedStates < 1) {
            throw new IllegalStateException("there is no saved state");
        }
        savedStates--;
        now.copyFrom(savedAt(oldestSaved + savedStates));
        return savedStates;
    }

    // ---- looks; nothing is changed

    public int condition(int condition, int what) throws IndexOutOfBoundsException, IllegalArgumentException {
        if (!now.has(condition)) {
            throw new IndexOutOfBoundsException("there is no such condition");
        }
        if (what < 0 || what > 8) {
            throw new IllegalArgumentException("what is not 0 to 8");
        }
        Condition looked = now.at(condition);
        switch (what) {
            case 0: return looked.factor;
            case 1: return looked.remainder;
            case 2: return looked.modulus;
            case 3: return now.isOn(condition) ? 1 : 0;
            case 4: return looked.isVoid() ? 1 : 0;
            case 5: return looked.bareModulus;
            case 6: return looked.bareRemainder;
            case 7: return Integer.bitCount(now.on & ~bit(condition) & ~now.partnersAt(condition));
            default: return isTold(condition) ? 1 : 0;
        }
    }

    public int agrees(int one, int other) throws IndexOutOfBoundsException {
        if (!now.has(one) || !now.has(other)) {
            throw new IndexOutOfBoundsException("there is no such condition");
        }
        return (now.partnersAt(one) & bit(other)) != 0 ? 1 : 0;
    }

    public long joined(int what) throws IllegalArgumentException {
        if (what < 0 || what > 1) {
            throw new IllegalArgumentException("what is not 0 or 1");
        }
        return joinedOf(now.on, what);
    }

    public int count(int what) throws IllegalArgumentException {
        if (what < 0 || what > 6) {
            throw new IllegalArgumentException("what is not 0 to 6");
        }
        switch (what) {
            case 0: return now.size;
            case 1: return Integer.bitCount(now.on);
            case 2: return now.voidOnes();
            case 3: return now.contradictions(now.on);
            case 4: return now.arePossible(now.on) ? 1 : 0;
            case 5: return toldOnes();
            default: return savedStates;
        }
    }

    public int prime(int p, int what) throws IllegalArgumentException {
        if (!isPrime(p) || what < 0 || what > 3) {
            throw new IllegalArgumentException("p is out of range or no prime, or what is not 0 to 3");
        }
        int strongest = strongestFor(p);
        if (what == 0) {
            return strongest;
        }
        if (strongest == NONE) {
            return what == 1 ? 1 : 0;
        }
        Condition asked = now.at(strongest);
        long power = powerIn(asked, p);
        switch (what) {
            case 1: return (int) power;
            case 2: return (int) rest(asked.bareRemainder, power);
            default: return contradictionsByPrime(asked, p);
        }
    }

    // ---- answers; nothing is changed

    public long answer(long from, int index) throws IllegalArgumentException {
        if (!isNumber(from) || index < 0 || index > GREATEST_INDEX) {
            throw new IllegalArgumentException("an argument is out of range");
        }
        if (!now.arePossible(now.on)) {
            return NONE;
        }
        Joint all = join(now.on);
        return all.leastFrom(from) + index * all.modulus;
    }

    public long nearest(long to) throws IllegalArgumentException {
        if (!isNumber(to)) {
            throw new IllegalArgumentException("the number is out of range");
        }
        if (!now.arePossible(now.on)) {
            return NONE;
        }
        Joint all = join(now.on);
        long above = all.leastFrom(to);
        long below = above - all.modulus;
        return below >= 0 && to - below <= above - to ? below : above;
    }

    public long between(long from, long to) throws IllegalArgumentException {
        if (!isNumber(from) || !isNumber(to)) {
            throw new IllegalArgumentException("a number is out of range");
        }
        if (to < from || !now.arePossible(now.on)) {
            return 0;
        }
        Joint all = join(now.on);
        return all.answersUpTo(to) - all.answersUpTo(from - 1);
    }

    public int misses(long x) throws IllegalArgumentException {
        if (!isNumber(x)) {
            throw new IllegalArgumentException("the number is out of range");
        }
        int missed = 0;
        for (int k = 0; k < now.size; k++) {
            if (now.isOn(k) && !now.at(k).isFulfilledBy(x)) {
                missed++;
            }
        }
        return missed;
    }

    // ---- what would be; nothing is changed

    public long ifAdded(int a, int b, int m, int what) throws IllegalArgumentException {
        if (!areParts(a, b, m) || what < 0 || what > 3) {
            throw new IllegalArgumentException("an argument is out of range");
        }
        Condition more = new Condition(a, b, m);
        if (isRefused(more)) {
            return NONE;
        }
        int against = Integer.bitCount(now.on & ~now.partnersOf(more));
        if (what == 2) {
            return against;
        }
        boolean possible = now.arePossible(now.on);
        if (what == 3) {
            return possible && join(now.on).tells(more) ? 1 : 0;
        }
        if (!possible || more.isVoid() || against > 0) {
            return NONE;
        }
        Joint all = join(now.on);
        all.take(more);
        return what == 0 ? all.modulus : all.remainder;
    }

    public long without(int condition, int what) throws IndexOutOfBoundsException, IllegalArgumentException {
        if (!now.has(condition)) {
            throw new IndexOutOfBoundsException("there is no such condition");
        }
        if (what < 0 || what > 1) {
            throw new IllegalArgumentException("what is not 0 or 1");
        }
        return joinedOf(now.on & ~bit(condition), what);
    }

    public int most() {
        int best = 0;
        int bestSize = 0;
        for (int mask = 1; mask < bit(now.size); mask++) {
            int size = Integer.bitCount(mask);
            if (size > bestSize && now.arePossible(mask)) {
                best = mask;
                bestSize = size;
            }
        }
        return best;
    }

    public int blame() {
        int blamed = NONE;
        int most = 0;
        for (int k = 0; k < now.size; k++) {
            // A void one is no partner of itself, so that it counts itself too, as it must.
            int against = now.isOn(k) ? Integer.bitCount(now.on & ~now.partnersAt(k)) : 0;
            if (against > most) {
                blamed = k;
                most = against;
            }
        }
        return blamed;
    }

    public double density() {
        if (!now.arePossible(now.on)) {
            return 0.0;
        }
        long modulus = join(now.on).modulus;
        return modulus < 1 ? 0.0 : 1.0 / (double) modulus;
    }

    public long digest() {
        long hash = DIGEST_START;
        for (int what = 0; what <= 6; what++) {
            hash = mixed(hash, count(what));
        }
        hash = mixed(hash, joined(0));
        hash = mixed(hash, joined(1));
        for (int k = 0; k < now.size; k++) {
            hash = withCondition(hash, k);
        }
        for (int k = 0; k < DIGEST_PRIMES.length; k++) {
            hash = withPrime(hash, DIGEST_PRIMES[k]);
        }
        hash = withAnswers(hash);
        for (int what = 0; what <= 3; what++) {
            hash = mixed(hash, ifAdded(3, 1, 10, what));
        }
        hash = mixed(hash, most());
        hash = mixed(hash, blame());
        hash = mixed(hash, bitsOf(density()));
        hash = mixed(hash, length);
        for (int k = 0; k < length; k++) {
            hash = mixed(hash, codeAt(k));
        }
        return hash;
    }

    // ---- parts of the calls

    private static int bit(int k) {
        return 1 << k;
    }

    private static boolean areParts(int a, int b, int m) {
        return a >= 1 && a <= GREATEST_PART && b >= 0 && b <= GREATEST_PART && m >= 1 && m <= GREATEST_PART;
    }

    private static boolean isNumber(long x) {
        return x >= 0 && x <= GREATEST;
    }

    private static boolean isPrime(int p) {
        if (p < 2 || p > GREATEST_PRIME) {
            return false;
        }
        for (int k = 2; k < p; k++) {
            if (rest(p, k) == 0) {
                return false;
            }
        }
        return true;
    }

    private boolean isRefused(Condition more) {
        return now.size >= CONDITIONS || widened(now.span(now.on), more) > GREATEST;
    }

    private void save() {
        savedAt(oldestSaved + savedStates).copyFrom(now);
        if (savedStates < SAVED_STATES) {
            savedStates++;
        } else {
            oldestSaved = (oldestSaved + 1) % SAVED_STATES;
        }
    }

    /** The states go round in their row, so that none is moved when the oldest one is dropped. */
    private State savedAt(int place) {
        int slot = Math.floorMod(place, SAVED_STATES);
        if (slot < 0 || slot >= saved.length || saved[slot] == null) {
            return now;
        }
        return saved[slot];
    }

    private int codeAt(int k) {
        return k >= 0 && k < buffer.length ? buffer[k] : 0;
    }

    private int readConditions() {
        int added = 0;
        scanner.start();
        for (int k = 0; k <= length; k++) {
            if (k == length || codeAt(k) == ';') {
                Condition more = new Condition(scanner.factor, scanner.remainder, scanner.value);
                if (isRefused(more)) {
                    return added;
                }
                now.put(more);
                added++;
            }
            if (k < length) {
                scanner.takes(codeAt(k));
            }
        }
        return added;
    }

    /** Those of the mask must be possible together, and their N not too great. */
    private Joint join(int mask) {
        joint.clear();
        for (int k = 0; k < now.size; k++) {
            if ((mask & bit(k)) != 0) {
                joint.take(now.at(k));
            }
        }
        return joint;
    }

    private long joinedOf(int mask, int what) {
        if (!now.arePossible(mask)) {
            return NONE;
        }
        Joint all = join(mask);
        return what == 0 ? all.modulus : all.remainder;
    }

    private boolean isTold(int k) {
        int others = now.on & ~bit(k);
        return now.isOn(k) && now.arePossible(others) && join(others).tells(now.at(k));
    }

    private int toldOnes() {
        int told = 0;
        for (int k = 0; k < now.size; k++) {
            if (isTold(k)) {
                told++;
            }
        }
        return told;
    }

    private int strongestFor(int p) {
        int strongest = NONE;
        long greatest = 1;
        for (int k = 0; k < now.size; k++) {
            long power = now.isOn(k) ? powerIn(now.at(k), p) : 1;
            if (power > greatest) {
                strongest = k;
                greatest = power;
            }
        }
        return strongest;
    }

    private int contradictionsByPrime(Condition strongest, int p) {
        int against = 0;
        for (int k = 0; k < now.size; k++) {
            Condition other = now.at(k);
            if (now.isOn(k) && !other.isVoid()) {
                long lesser = Math.min(powerIn(other, p), powerIn(strongest, p));
                if (rest(other.bareRemainder, lesser) != rest(strongest.bareRemainder, lesser)) {
                    against++;
                }
            }
        }
        return against;
    }

    private static long mixed(long hash, long value) {
        return 31 * hash + value;
    }

    private long withCondition(long start, int k) {
        long hash = start;
        for (int what = 0; what <= 8; what++) {
            hash = mixed(hash, condition(k, what));
        }
        for (int other = 0; other < now.size; other++) {
            hash = mixed(hash, agrees(k, other));
        }
        hash = mixed(hash, without(k, 0));
        return mixed(hash, without(k, 1));
    }

    private long withPrime(long start, int p) {
        long hash = start;
        for (int what = 0; what <= 3; what++) {
            hash = mixed(hash, prime(p, what));
        }
        return hash;
    }

    private long withAnswers(long start) {
        long hash = start;
        for (int index = 0; index <= 2; index++) {
            hash = mixed(hash, answer(0, index));
        }
        hash = mixed(hash, answer(1000, 0));
        hash = mixed(hash, nearest(500));
        hash = mixed(hash, between(0, 9999));
        hash = mixed(hash, misses(0));
        return mixed(hash, misses(100));
    }

    /**
     * The bits of a double from 0 to 1, worked out here because LANGUAGE.md leaves no call that
     * tells them. Doubling is exact, so that no bit is lost on the way.
     */
    private static long bitsOf(double number) {
        if (!(number > 0.0)) {
            return 0;
        }
        double fraction = number;
        long exponent = DOUBLE_BIAS;
        for (int k = 1; k < DOUBLE_BIAS && fraction < 1.0; k++) {
            fraction = fraction * 2.0;
            exponent--;
        }
        double scale = (double) (1L << DOUBLE_FRACTION_BITS);
        return (exponent << DOUBLE_FRACTION_BITS) + (long) ((fraction - 1.0) * scale);
    }

    // ---- arithmetic; what is no divisor is answered with 0, so that no division can fail

    /** 0 to n - 1, for an x below 0 too. */
    private static long rest(long x, long n) {
        if (n < 1) {
            return 0;
        }
        long left = x % n;
        return left < 0 ? left + n : left;
    }

    private static long share(long x, long n) {
        return n < 1 ? 0 : x / n;
    }

    private static long commonDivisor(long one, long other) {
        long x = one;
        long y = other;
        for (int k = 0; k < EUCLID_STEPS && y > 0; k++) {
            long left = x % y;
            x = y;
            y = left;
        }
        return x;
    }

    /** What a must be multiplied with to leave 1 by n, perhaps below 0; they share no factor. */
    private static long inverse(long a, long n) {
        long x = n;
        long y = a;
        long before = 0;
        long times = 1;
        for (int k = 0; k < EUCLID_STEPS && y > 0; k++) {
            long quotient = x / y;
            long left = x - quotient * y;
            long next = before - quotient * times;
            x = y;
            y = left;
            before = times;
            times = next;
        }
        return before;
    }

    /** The power of p that the condition asks for; a void one asks for none. */
    private static long powerIn(Condition asking, int p) {
        long power = 1;
        for (int k = 0; k < MOST_FACTORS && !asking.isVoid() && rest(asking.bareModulus, power * p) == 0; k++) {
            power *= p;
        }
        return power;
    }

    /** The least common multiple of n and the bare modulus; above GREATEST it stays as it is. */
    private static long widened(long n, Condition more) {
        if (more.isVoid() || n > GREATEST) {
            return n;
        }
        return share(n, commonDivisor(n, more.bareModulus)) * more.bareModulus;
    }

    // ---- what an object holds

    /** Never changed, so that the saved states may share it. */
    private static final class Condition {
        private final int factor;
        private final int remainder;
        private final int modulus;
        private final int bareModulus;
        private final int bareRemainder;

        Condition(int a, int b, int m) {
            factor = a;
            remainder = b;
            modulus = m;
            long common = commonDivisor(a, m);
            if (rest(b, common) != 0) {
                bareModulus = NONE;
                bareRemainder = NONE;
            } else {
                long n = share(m, common);
                bareModulus = (int) n;
                bareRemainder = (int) rest(share(b, common) * inverse(share(a, common), n), n);
            }
        }

        boolean isVoid() {
            return bareModulus == NONE;
        }

        boolean isPartnerOf(Condition other) {
            if (isVoid() || other.isVoid()) {
                return false;
            }
            long common = commonDivisor(bareModulus, other.bareModulus);
            return rest(bareRemainder, common) == rest(other.bareRemainder, common);
        }

        boolean isFulfilledBy(long x) {
            return !isVoid() && rest(x, bareModulus) == bareRemainder;
        }
    }

    /** What several conditions come to. */
    private static final class Joint {
        private long modulus;
        private long remainder;

        Joint() {
            modulus = 1;
            remainder = 0;
        }

        void clear() {
            modulus = 1;
            remainder = 0;
        }

        /** The condition must agree with all that have been taken. */
        void take(Condition more) {
            long common = commonDivisor(modulus, more.bareModulus);
            long further = share(more.bareModulus, common);
            long gap = share(rest(more.bareRemainder - remainder, more.bareModulus), common);
            long times = rest(gap * inverse(share(modulus, common), further), further);
            remainder += modulus * times;
            modulus *= further;
        }

        boolean tells(Condition other) {
            return !other.isVoid() && rest(modulus, other.bareModulus) == 0 && other.isFulfilledBy(remainder);
        }

        long leastFrom(long from) {
            return from + rest(remainder - from, modulus);
        }

        long answersUpTo(long to) {
            return to < remainder ? 0 : share(to - remainder, modulus) + 1;
        }
    }

    /** The conditions with their switches: all that undo() brings back. */
    private static final class State {
        private final Condition blank;
        private final Condition[] conditions;
        private final int[] partners;
        private int size;
        private int on;

        State(Condition blank) {
            this.blank = blank;
            conditions = new Condition[CONDITIONS];
            partners = new int[CONDITIONS];
            size = 0;
            on = 0;
        }

        void copyFrom(State other) {
            size = other.size;
            on = other.on;
            for (int k = 0; k < conditions.length; k++) {
                conditions[k] = other.at(k);
            }
            for (int k = 0; k < partners.length; k++) {
                partners[k] = other.partnersAt(k);
            }
        }

        boolean has(int k) {
            return k >= 0 && k < size;
        }

        boolean isOn(int k) {
            return has(k) && (on & bit(k)) != 0;
        }

        Condition at(int k) {
            if (k < 0 || k >= conditions.length || conditions[k] == null) {
                return blank;
            }
            return conditions[k];
        }

        /** A mask of the conditions that agree with this one, it too if it is not void. */
        int partnersAt(int k) {
            return k >= 0 && k < partners.length ? partners[k] : 0;
        }

        int partnersOf(Condition looked) {
            int mask = 0;
            for (int k = 0; k < size; k++) {
                if (looked.isPartnerOf(at(k))) {
                    mask |= bit(k);
                }
            }
            return mask;
        }

        int put(Condition more) {
            int number = size;
            replace(number, more);
            size++;
            on |= bit(number);
            findPartners();
            return number;
        }

        void replace(int k, Condition then) {
            if (k >= 0 && k < conditions.length) {
                conditions[k] = then;
            }
        }

        void drop(int gone) {
            for (int k = gone; k < size; k++) {
                replace(k, at(k + 1));
            }
            int below = bit(gone) - 1;
            on = (on & below) | ((on >> 1) & ~below);
            size--;
            findPartners();
        }

        private void findPartners() {
            for (int k = 0; k < partners.length; k++) {
                partners[k] = k < size ? partnersOf(at(k)) : 0;
            }
        }

        int voidOnes() {
            int found = 0;
            for (int k = 0; k < size; k++) {
                if (at(k).isVoid()) {
                    found++;
                }
            }
            return found;
        }

        boolean arePossible(int mask) {
            for (int k = 0; k < size; k++) {
                if ((mask & bit(k)) != 0 && (mask & ~partnersAt(k)) != 0) {
                    return false;
                }
            }
            return true;
        }

        int contradictions(int mask) {
            int found = 0;
            for (int k = 0; k < size; k++) {
                if ((mask & bit(k)) != 0) {
                    int lower = mask & (bit(k) - 1);
                    found += Integer.bitCount(lower & ~partnersAt(k));
                }
            }
            return found;
        }

        /** The N of the mask by bare moduli alone, or some number above GREATEST. */
        long span(int mask) {
            long n = 1;
            for (int k = 0; k < size; k++) {
                if ((mask & bit(k)) != 0) {
                    n = widened(n, at(k));
                }
            }
            return n;
        }
    }

    /** Goes through a text from left to right, and keeps the numbers of the condition it is in. */
    private static final class Scanner {
        private static final int AT_START = 0;
        private static final int IN_FACTOR = 1;
        private static final int AFTER_X = 2;
        private static final int AFTER_EQUALS = 3;
        private static final int IN_REMAINDER = 4;
        private static final int AFTER_PERCENT = 5;
        private static final int IN_MODULUS = 6;

        private int place;
        private int value;
        private int factor;
        private int remainder;

        Scanner() {
            start();
        }

        private void start() {
            place = AT_START;
            value = 0;
            factor = 1;
            remainder = 0;
        }

        boolean isComplete() {
            return place == IN_MODULUS;
        }

        /** Tells whether a text may go on with this character, and goes on with it if so. */
        boolean takes(int code) {
            return code >= '0' && code <= '9' ? takesDigit(code - '0') : takesSign(code);
        }

        private boolean takesDigit(int digit) {
            switch (place) {
                case AT_START: return begins(IN_FACTOR, digit, 1);
                case AFTER_EQUALS: return begins(IN_REMAINDER, digit, 0);
                case AFTER_PERCENT: return begins(IN_MODULUS, digit, 1);
                case IN_FACTOR:
                case IN_REMAINDER:
                case IN_MODULUS: return continues(digit);
                default: return false;
            }
        }

        private boolean begins(int then, int digit, int least) {
            if (digit < least) {
                return false;
            }
            place = then;
            value = digit;
            return true;
        }

        /** A number that is 0 has no more digits, and none has more than three. */
        private boolean continues(int digit) {
            if (value < 1 || value * 10 + digit > GREATEST_PART) {
                return false;
            }
            value = value * 10 + digit;
            return true;
        }

        private boolean takesSign(int code) {
            if (code == 'x' && (place == AT_START || place == IN_FACTOR)) {
                factor = place == AT_START ? 1 : value;
                place = AFTER_X;
                return true;
            }
            if (code == '=' && place == AFTER_X) {
                place = AFTER_EQUALS;
                return true;
            }
            if (code == '%' && place == IN_REMAINDER) {
                remainder = value;
                place = AFTER_PERCENT;
                return true;
            }
            if (code == ';' && place == IN_MODULUS) {
                place = AT_START;
                return true;
            }
            return false;
        }
    }
}
