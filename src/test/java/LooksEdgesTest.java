/** The boundary cases that the document names in promises 13 to 17, sentence by sentence. */
public final class LooksEdgesTest {
    private static final Check CHECK = new Check("LooksEdgesTest");
    private static final Twins TWINS = new Twins(CHECK);
    private static final int[] WRONG = {Integer.MIN_VALUE, -2, -1, 10, 11, 1000, Integer.MAX_VALUE};
    private static final Twins.Calls EMPTY = made -> { };
    private static final Twins.Calls TEN = made -> Made.putElevenths(made, 10);
    private static final Twins.Calls MIXED = made -> {
        Made.put(made, 6, 3, 9, 1, 1, 2, 4, 2, 8, 1, 0, 1);
        made.toggle(1);
        Made.type(made, "x=1%2");
    };

    public static void main(String[] args) {
        conditionNumber();
        conditionWhat();
        noneForBothIfVoid();
        othersThatDoNotAgree();
        othersOnThatDoNotAgree();
        toldOnlyIfOn();
        toldOnlyIfTheOthersArePossible();
        toldByAllOthers();
        agreesNumbers();
        agreesWithItself();
        agreesWhetherOnOrOff();
        joinedWhat();
        joinedOfWhatIsNotPossible();
        countWhat();
        countOfNoneToTen();
        countPairs();
        countPossibleAndTold();
        countSaved();
        primeNumbers();
        primeWhat();
        primeRemainder();
        primeContradictions();
        CHECK.end();
    }

    // ---- promise 13

    private static void conditionNumber() {
        for (Twins.Calls state : new Twins.Calls[] {EMPTY, MIXED, TEN}) {
            int there = Twins.made(state).count(0);
            for (int what = 0; what <= 8; what++) {
                int asked = what;
                TWINS.badIndex("condition: -1", state, made -> made.condition(-1, asked));
                TWINS.badIndex("condition: " + there, state, made -> made.condition(there, asked));
                TWINS.badIndex("condition: " + (there + 1), state, made -> made.condition(there + 1, asked));
            }
            for (int wrong : WRONG) {
                TWINS.badIndex("condition: " + wrong, state, made -> made.condition(wrong, 0));
            }
        }
        for (int k = 0; k < 10; k++) {
            int number = k;
            TWINS.looks("condition: " + k + " of ten", k, TEN, made -> made.condition(number, 1));
        }
    }

    private static void conditionWhat() {
        int[][] due = {{6, 3, 9, 1, 0, 3, 2, 1, 0}, {1, 1, 2, 0, 0, 2, 1, 1, 0}, {4, 2, 8, 1, 1, -1, -1, 2, 0},
            {1, 0, 1, 1, 0, 1, 0, 1, 0}};
        for (int k = 0; k < due.length; k++) {
            int number = k;
            for (int what = 0; what <= 8; what++) {
                int asked = what;
                TWINS.looks("condition: " + k + " " + what, due[k][what], MIXED, made -> made.condition(number, asked));
            }
            for (int wrong : new int[] {Integer.MIN_VALUE, -1, 9, 10, Integer.MAX_VALUE}) {
                TWINS.badArgument("condition: " + k + ", what " + wrong, MIXED, made -> made.condition(number, wrong));
            }
        }
    }

    /** "5: its bare modulus, 6: its bare remainder, NONE for both if it is void" */
    private static void noneForBothIfVoid() {
        SharedModuli made = Made.with(3, 2, 3, 3, 3, 3, 3, 1, 3);
        int[][] due = {{1, -1, -1}, {0, 1, 0}, {1, -1, -1}};
        for (int number = 0; number < 3; number++) {
            for (int what = 4; what <= 6; what++) {
                CHECK.due("void: " + number + " " + what, made.condition(number, what), due[number][what - 4]);
            }
        }
        made.toggle(0);
        CHECK.due("void: off or on", made.condition(0, 4), 1);
        CHECK.due("void: off or on, bare modulus", made.condition(0, 5), SharedModuli.NONE);
    }

    /** "7: how many other conditions that are on do not agree with it" */
    private static void othersThatDoNotAgree() {
        CHECK.due("against: none is there", Made.with(1, 1, 2).condition(0, 7), 0);
        CHECK.due("against: a void one is not another than itself", Made.with(2, 1, 2).condition(0, 7), 0);
        SharedModuli ten = Twins.made(TEN);
        for (int k = 0; k < 10; k++) {
            CHECK.due("against: nine", ten.condition(k, 7), 9);
        }
        SharedModuli voids = Made.with(2, 1, 2, 1, 0, 1, 2, 1, 4);
        CHECK.due("against: a void one has all others against it", voids.condition(0, 7), 2);
        CHECK.due("against: void ones are against all others", voids.condition(1, 7), 2);
        SharedModuli some = Made.with(1, 0, 6, 1, 1, 2, 1, 1, 3, 1, 0, 5);
        CHECK.due("against: two of three", some.condition(0, 7), 2);
        CHECK.due("against: one of three", some.condition(1, 7), 1);
        CHECK.due("against: none of three", some.condition(3, 7), 0);
    }

    private static void othersOnThatDoNotAgree() {
        SharedModuli ten = Twins.made(TEN);
        for (int k = 0; k < 9; k++) {
            ten.toggle(k);
            CHECK.due("against: of one that is off", ten.condition(k, 7), 9 - k);
            CHECK.due("against: of one that is on", ten.condition(9, 7), 8 - k);
        }
        ten.toggle(9);
        CHECK.due("against: all are off", ten.condition(0, 7), 0);
        ten.toggle(9);
        CHECK.due("against: one is on", ten.condition(0, 7), 1);
        CHECK.due("against: itself alone is on", ten.condition(9, 7), 0);
    }

    /** "8: 1 if it is on" */
    private static void toldOnlyIfOn() {
        SharedModuli made = Made.with(1, 1, 2, 1, 1, 4, 1, 0, 1);
        CHECK.due("told: on", made.condition(0, 8), 1);
        CHECK.due("told: all numbers", made.condition(2, 8), 1);
        made.toggle(0);
        made.toggle(2);
        CHECK.due("told: off", made.condition(0, 8), 0);
        CHECK.due("told: all numbers, off", made.condition(2, 8), 0);
        CHECK.due("told: the only one that is on", made.condition(1, 8), 0);
        made.toggle(0);
        CHECK.due("told: on again", made.condition(0, 8), 1);
        made.toggle(1);
        CHECK.due("told: not by what is off", made.condition(0, 8), 0);
        made.toggle(2);
        CHECK.due("told: all numbers, by 1 (2)", made.condition(2, 8), 1);
        made.toggle(0);
        CHECK.due("told: all numbers, by none", made.condition(2, 8), 1);
    }

    /** "and all others that are on are possible together" */
    private static void toldOnlyIfTheOthersArePossible() {
        SharedModuli made = Made.with(1, 1, 2, 1, 1, 4, 1, 0, 3, 1, 1, 3, 2, 1, 2);
        made.toggle(3);
        made.toggle(4);
        CHECK.due("told: the others are possible", made.condition(0, 8), 1);
        made.toggle(3);
        CHECK.due("told: the others contradict", made.condition(0, 8), 0);
        CHECK.due("told: others than 0 (3) are possible, and do not tell it", made.condition(2, 8), 0);
        made.toggle(2);
        CHECK.due("told: they are possible again", made.condition(0, 8), 1);
        made.toggle(4);
        CHECK.due("told: a void one is among the others", made.condition(0, 8), 0);
        CHECK.due("told: a void one is never told", made.condition(4, 8), 0);
        SharedModuli apart = Made.with(1, 0, 2, 1, 1, 4);
        CHECK.due("told: by one it contradicts", apart.condition(0, 8), 0);
        CHECK.due("told: by one it contradicts", apart.condition(1, 8), 0);
        CHECK.due("told: a void one alone", Made.with(2, 1, 2).condition(0, 8), 0);
        CHECK.due("told: one that others are against is against all of these", Made.with(1, 0, 2, 1, 1, 2, 1, 1, 2)
            .condition(1, 8), 0);
    }

    private static void toldByAllOthers() {
        CHECK.due("told: by both together", Made.with(1, 5, 6, 1, 1, 2, 1, 2, 3).condition(0, 8), 1);
        CHECK.due("told: not by one of both", Made.with(1, 5, 6, 1, 1, 2).condition(0, 8), 0);
        CHECK.due("told: not by the other", Made.with(1, 5, 6, 1, 2, 3).condition(0, 8), 0);
        CHECK.due("told: 8 not by 4", Made.with(1, 1, 8, 1, 1, 4, 1, 1, 2).condition(0, 8), 0);
        CHECK.due("told: 4 by 8", Made.with(1, 1, 4, 1, 1, 8).condition(0, 8), 1);
        CHECK.due("told: by one that is alike", Made.with(1, 1, 4, 3, 3, 4).condition(0, 8), 1);
        CHECK.due("told: by its bare modulus", Made.with(4, 4, 8, 1, 1, 2).condition(0, 8), 1);
        SharedModuli great = new SharedModuli();
        Made.putModuli(great, Made.INSIDE, 6);
        great.add(1, 0, 28);
        CHECK.due("told: at the greatest N", great.condition(6, 8), 1);
        CHECK.due("told: at the greatest N, 332 is needed", great.condition(3, 8), 0);
    }

    // ---- promise 14

    private static void agreesNumbers() {
        for (Twins.Calls state : new Twins.Calls[] {MIXED, TEN}) {
            int there = Twins.made(state).count(0);
            for (int wrong : new int[] {Integer.MIN_VALUE, -1, there, there + 1, 32, Integer.MAX_VALUE}) {
                TWINS.badIndex("agrees: " + wrong + " 0", state, made -> made.agrees(wrong, 0));
                TWINS.badIndex("agrees: 0 " + wrong, state, made -> made.agrees(0, wrong));
                TWINS.badIndex("agrees: " + wrong + " last", state, made -> made.agrees(wrong, there - 1));
                TWINS.badIndex("agrees: both " + wrong, state, made -> made.agrees(wrong, wrong));
            }
            TWINS.looks("agrees: the last with itself", 1, state, made -> made.agrees(there - 1, there - 1));
        }
        TWINS.badIndex("agrees: of none", EMPTY, made -> made.agrees(0, 0));
        TWINS.looks("agrees: 0 and 9", 0, TEN, made -> made.agrees(0, 9));
        TWINS.looks("agrees: 9 and 0", 0, TEN, made -> made.agrees(9, 0));
    }

    /** "(a condition agrees with itself if it is not void)" */
    private static void agreesWithItself() {
        SharedModuli made = Made.with(2, 1, 2, 2, 2, 2, 1, 0, 1, 999, 998, 999);
        int[] due = {0, 1, 1, 0};
        for (int k = 0; k < due.length; k++) {
            CHECK.due("agrees: " + k + " with itself", made.agrees(k, k), due[k]);
        }
        CHECK.due("agrees: a void one with another void one", made.agrees(0, 3), 0);
        CHECK.due("agrees: a void one with all numbers", made.agrees(0, 2), 0);
        CHECK.due("agrees: all numbers with all numbers", made.agrees(1, 2), 1);
    }

    private static void agreesWhetherOnOrOff() {
        SharedModuli made = Made.with(1, 1, 2, 1, 3, 4, 1, 2, 4);
        for (int switches = 0; switches < 8; switches++) {
            CHECK.due("agrees: 0 1", made.agrees(0, 1), 1);
            CHECK.due("agrees: 0 2", made.agrees(0, 2), 0);
            CHECK.due("agrees: 1 2", made.agrees(1, 2), 0);
            CHECK.due("agrees: 2 2", made.agrees(2, 2), 1);
            made.toggle(Integer.numberOfTrailingZeros(switches + 1) % 3);
        }
    }

    // ---- promise 15

    private static void joinedWhat() {
        for (Twins.Calls state : new Twins.Calls[] {EMPTY, MIXED, TEN}) {
            for (int wrong : new int[] {Integer.MIN_VALUE, -1, 2, 3, Integer.MAX_VALUE}) {
                TWINS.badArgument("joined: " + wrong, state, made -> made.joined(wrong));
            }
        }
        TWINS.looks("joined: 0", 12, made -> Made.put(made, 1, 3, 4, 1, 5, 6), made -> made.joined(0));
        TWINS.looks("joined: 1", 11, made -> Made.put(made, 1, 3, 4, 1, 5, 6), made -> made.joined(1));
    }

    /** "NONE if they are not possible together" */
    private static void joinedOfWhatIsNotPossible() {
        SharedModuli made = Made.with(1, 3, 4, 1, 5, 6, 1, 1, 4, 3, 1, 3);
        long[][] due = {{-1, -1}, {-1, -1}, {12, 11}, {6, 5}};
        CHECK.due("joined: a void one too", made.joined(0), due[0][0]);
        CHECK.due("joined: a void one too, R", made.joined(1), due[0][1]);
        made.toggle(3);
        CHECK.due("joined: two contradict", made.joined(0), due[1][0]);
        CHECK.due("joined: two contradict, R", made.joined(1), due[1][1]);
        made.toggle(2);
        CHECK.due("joined: both are possible", made.joined(0), due[2][0]);
        CHECK.due("joined: both are possible, R", made.joined(1), due[2][1]);
        made.toggle(0);
        CHECK.due("joined: one", made.joined(0), due[3][0]);
        CHECK.due("joined: one, R", made.joined(1), due[3][1]);
        made.toggle(3);
        CHECK.due("joined: one and a void one", made.joined(0), -1);
    }

    // ---- promise 16

    private static void countWhat() {
        int[] due = {4, 3, 1, 2, 0, 0, 5};
        for (int what = 0; what <= 6; what++) {
            int asked = what;
            TWINS.looks("count: " + what, due[what], MIXED, made -> made.count(asked));
        }
        for (Twins.Calls state : new Twins.Calls[] {EMPTY, MIXED, TEN}) {
            for (int wrong : new int[] {Integer.MIN_VALUE, -1, 7, 8, Integer.MAX_VALUE}) {
                TWINS.badArgument("count: " + wrong, state, made -> made.count(wrong));
            }
        }
    }

    private static void counts(String name, SharedModuli of, int... due) {
        for (int what = 0; what < due.length; what++) {
            CHECK.due("count " + name + ": " + what, of.count(what), due[what]);
        }
    }

    private static void countOfNoneToTen() {
        for (int k = 0; k <= 10; k++) {
            SharedModuli made = new SharedModuli();
            Made.putElevenths(made, k);
            counts(k + " elevenths", made, k, k, 0, k * (k - 1) / 2, k < 2 ? 1 : 0, 0, Math.min(k, 6));
            SharedModuli voids = new SharedModuli();
            for (int one = 0; one < k; one++) {
                voids.add(2, 1, 2);
            }
            counts(k + " void ones", voids, k, k, k, k * (k - 1) / 2, k == 0 ? 1 : 0, 0, Math.min(k, 6));
            SharedModuli all = new SharedModuli();
            for (int one = 0; one < k; one++) {
                all.add(1, one, 1);
            }
            counts(k + " times all numbers", all, k, k, 0, 0, 1, k, Math.min(k, 6));
        }
        SharedModuli made = Made.with(2, 1, 2, 2, 1, 4, 1, 0, 1);
        made.toggle(0);
        counts("one of two void ones off", made, 3, 2, 2, 1, 0, 0, 4);
        made.toggle(1);
        made.toggle(2);
        counts("all off", made, 3, 0, 2, 0, 1, 0, 6);
    }

    /** "3: pairs of conditions that are on that do not agree" */
    private static void countPairs() {
        counts("one pair", Made.with(1, 0, 2, 1, 1, 2), 2, 2, 0, 1);
        counts("a pair of a void one", Made.with(1, 0, 2, 2, 1, 2), 2, 2, 1, 1);
        counts("a pair turned round", Made.with(2, 1, 2, 1, 0, 2), 2, 2, 1, 1);
        counts("three pairs", Made.with(1, 0, 2, 1, 1, 4, 1, 3, 4, 1, 0, 3), 4, 4, 0, 3);
        SharedModuli made = Made.with(1, 0, 2, 1, 1, 4, 1, 3, 4);
        made.toggle(0);
        counts("a pair without what is off", made, 3, 2, 0, 1);
        made.toggle(0);
        made.toggle(2);
        counts("a pair without the last, which is off", made, 3, 2, 0, 1);
        made.toggle(1);
        counts("no pair", made, 3, 1, 0, 0);
        made.toggle(1);
        made.toggle(0);
        counts("no pair of one that is on between two that are off", made, 3, 1, 0, 0);
    }

    private static void countPossibleAndTold() {
        counts("each told by both others", Made.with(1, 5, 6, 1, 5, 10, 1, 5, 15), 3, 3, 0, 0, 1, 3, 3);
        counts("one told", Made.with(1, 1, 2, 1, 1, 4), 2, 2, 0, 0, 1, 1, 2);
        counts("told by others that are possible, but contradicted", Made.with(1, 1, 2, 1, 0, 2), 2, 2, 0, 1, 0, 0, 2);
        SharedModuli made = Made.with(1, 1, 2, 1, 1, 2, 1, 1, 2);
        counts("three alike", made, 3, 3, 0, 0, 1, 3);
        made.thin();
        counts("three alike, thin", made, 3, 1, 0, 0, 1, 0);
    }

    private static void countSaved() {
        SharedModuli made = new SharedModuli();
        for (int saved = 0; saved <= 8; saved++) {
            CHECK.due("count: saved", made.count(6), Math.min(saved, 6));
            made.thin();
        }
        for (int left = 5; left >= 0; left--) {
            made.undo();
            CHECK.due("count: saved, left", made.count(6), left);
        }
    }

    // ---- promise 17

    /** "p: 2 to 31", "Throws IllegalArgumentException if p is out of range or no prime" */
    private static void primeNumbers() {
        Twins.Calls state = made -> Made.put(made, 1, 29, 30, 1, 36, 37, 1, 6, 7, 1, 100, 961);
        int[] primes = {2, 3, 5, 7, 11, 13, 17, 19, 23, 29, 31};
        int[] powers = {2, 3, 5, 7, 1, 1, 1, 1, 1, 1, 961};
        int next = 0;
        for (int p = -40; p <= 1000; p++) {
            int tried = p;
            if (next < primes.length && primes[next] == p) {
                TWINS.looks("prime: " + p, powers[next], state, made -> made.prime(tried, 1));
                next++;
            } else {
                CHECK.badArgument("prime: " + p, () -> Twins.made(state).prime(tried, 1));
            }
        }
        CHECK.due("prime: all eleven", next, primes.length);
        for (int p : new int[] {Integer.MIN_VALUE, Integer.MIN_VALUE + 2, -2, -3, 0, 1, 4, 30, 32, 33, 37, Integer.MAX_VALUE}) {
            TWINS.badArgument("prime: " + p, state, made -> made.prime(p, 0));
            TWINS.badArgument("prime: " + p + ", what 4", state, made -> made.prime(p, 4));
        }
    }

    private static void primeWhat() {
        Twins.Calls state = made -> Made.put(made, 1, 1, 2, 1, 2, 4, 1, 7, 8);
        int[] due = {2, 8, 7, 1};
        for (int what = 0; what <= 3; what++) {
            int asked = what;
            TWINS.looks("prime: what " + what, due[what], state, made -> made.prime(2, asked));
        }
        for (int wrong : new int[] {Integer.MIN_VALUE, -1, 4, 5, Integer.MAX_VALUE}) {
            TWINS.badArgument("prime: what " + wrong, state, made -> made.prime(2, wrong));
            TWINS.badArgument("prime: what " + wrong + " without a strongest", state, made -> made.prime(31, wrong));
        }
    }

    /** "2: the remainder by this power": of the bare remainder */
    private static void primeRemainder() {
        int[][] rows = {{1, 0, 8, 0}, {1, 7, 8, 7}, {1, 8, 8, 0}, {1, 999, 8, 7}, {3, 1, 8, 3}, {6, 2, 16, 3}, {1, 23, 24, 7},
            {5, 1, 24, 5}, {999, 1, 512, 471}};
        for (int[] row : rows) {
            SharedModuli made = Made.with(row[0], row[1], row[2]);
            CHECK.due("prime: remainder of " + row[0] + "x=" + row[1] + "%" + row[2], made.prime(2, 2), row[3]);
        }
    }

    private static void against(int due, int p, int... parts) {
        SharedModuli made = Made.with(parts);
        CHECK.due("prime: against the strongest of " + parts.length / 3 + " by " + p, made.prime(p, 3), due);
    }

    /** "their remainders by the lesser one of both powers are unlike" */
    private static void primeContradictions() {
        against(0, 2, 1, 5, 8, 1, 1, 4);
        against(0, 2, 1, 5, 8, 1, 1, 2);
        against(1, 2, 1, 5, 8, 1, 3, 4);
        against(1, 2, 1, 5, 8, 1, 0, 2);
        against(1, 2, 1, 5, 8, 1, 1, 8);
        against(0, 2, 1, 5, 8, 1, 5, 8);
        against(0, 2, 1, 5, 8, 1, 21, 24);
        against(1, 2, 1, 5, 8, 1, 17, 24);
        against(0, 2, 1, 5, 8, 1, 0, 3);
        against(0, 2, 1, 5, 8, 2, 1, 2);
        against(0, 2, 1, 5, 8);
        against(1, 2, 1, 1, 4, 1, 4, 8);
        against(2, 3, 1, 1, 9, 1, 2, 3, 1, 4, 9, 1, 1, 3, 1, 1, 4);
        against(0, 3, 1, 1, 6, 1, 4, 9);
        against(1, 3, 1, 1, 6, 1, 5, 9);
        against(9, 11, 1, 0, 11, 1, 1, 11, 1, 2, 11, 1, 3, 11, 1, 4, 11, 1, 5, 11, 1, 6, 11, 1, 7, 11, 1, 8, 11, 1, 9, 11);
        against(0, 2, 1, 1, 24, 1, 9, 24);
        against(1, 3, 1, 1, 24, 1, 9, 24);
        against(0, 5, 1, 1, 24, 1, 9, 24);
        against(0, 2, 1, 3, 8, 3, 1, 8);
        against(1, 2, 1, 1, 8, 3, 1, 8);
        against(1, 31, 1, 31, 961, 1, 1, 31);
        against(0, 31, 1, 32, 961, 1, 1, 31);
        SharedModuli made = Made.with(1, 5, 8, 1, 3, 4, 1, 0, 2);
        CHECK.due("prime: two against", made.prime(2, 3), 2);
        made.toggle(1);
        CHECK.due("prime: not what is off", made.prime(2, 3), 1);
        made.toggle(0);
        CHECK.due("prime: another is the strongest", made.prime(2, 3), 0);
        made.toggle(1);
        CHECK.due("prime: of those by 4 and 2", made.prime(2, 3), 1);
    }
}
