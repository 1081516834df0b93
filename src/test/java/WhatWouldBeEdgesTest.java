/** The boundary cases that the document names in promises 22 to 27, sentence by sentence. */
public final class WhatWouldBeEdgesTest {
    private static final Check CHECK = new Check("WhatWouldBeEdgesTest");
    private static final Twins TWINS = new Twins(CHECK);
    private static final Twins.Calls EMPTY = made -> { };
    private static final Twins.Calls TEN = made -> Made.putElevenths(made, 10);
    private static final Twins.Calls INSIDE = made -> Made.putModuli(made, Made.INSIDE, 6);
    private static final Twins.Calls FIVE_INSIDE = made -> Made.putModuli(made, Made.INSIDE, 5);
    private static final Twins.Calls FIVE_OUTSIDE = made -> Made.putModuli(made, Made.OUTSIDE, 5);
    private static final Twins.Calls MIXED = made -> {
        Made.put(made, 1, 2, 6, 1, 8, 15, 1, 1, 2, 2, 1, 2);
        made.toggle(2);
        made.toggle(3);
        Made.type(made, "x=1");
    };

    public static void main(String[] args) {
        ifAddedParts();
        ifAddedWhat();
        ifAddedWithAVoidOne();
        ifAddedToWhatIsNotPossible();
        ifAddedTold();
        ifAddedAsTheTenth();
        ifAddedUpToTheGreatestN();
        withoutNumbers();
        withoutOneOfThoseThatAreOn();
        withoutOneThatContradicts();
        withoutAtTheGreatestN();
        mostOfNone();
        mostOnOrOff();
        mostWithTheLeastMask();
        mostOfTen();
        blameOfThePossible();
        blameTheLowest();
        blameAVoidOne();
        blameThoseThatAreOn();
        densities();
        digestByItsList();
        CHECK.end();
    }

    // ---- promise 22

    private static void ifAdded(Twins.Calls before, int a, int b, int m, long... due) {
        for (int what = 0; what < due.length; what++) {
            int asked = what;
            TWINS.looks("ifAdded: " + a + "x=" + b + "%" + m + ", " + what, due[what], before,
                made -> made.ifAdded(a, b, m, asked));
        }
    }

    private static void ifAddedParts() {
        for (Twins.Calls state : new Twins.Calls[] {EMPTY, MIXED, TEN, INSIDE}) {
            for (int wrong : new int[] {Integer.MIN_VALUE, -1, 1000, 1001, Integer.MAX_VALUE}) {
                TWINS.badArgument("ifAdded: a " + wrong, state, made -> made.ifAdded(wrong, 0, 1, 0));
                TWINS.badArgument("ifAdded: b " + wrong, state, made -> made.ifAdded(1, wrong, 1, 1));
                TWINS.badArgument("ifAdded: m " + wrong, state, made -> made.ifAdded(1, 0, wrong, 2));
            }
            TWINS.badArgument("ifAdded: a 0", state, made -> made.ifAdded(0, 0, 1, 3));
            TWINS.badArgument("ifAdded: m 0", state, made -> made.ifAdded(1, 0, 0, 0));
            for (int wrong : new int[] {Integer.MIN_VALUE, -1, 4, 5, Integer.MAX_VALUE}) {
                TWINS.badArgument("ifAdded: what " + wrong, state, made -> made.ifAdded(1, 0, 1, wrong));
            }
        }
        ifAdded(EMPTY, 1, 0, 1, 1, 0, 0, 1);
        ifAdded(EMPTY, 999, 999, 999, 1, 0, 0, 1);
        ifAdded(EMPTY, 1, 999, 999, 999, 0, 0, 0);
        ifAdded(EMPTY, 1, 998, 999, 999, 998, 0, 0);
        ifAdded(EMPTY, 2, 998, 999, 999, 499, 0, 0);
        ifAdded(EMPTY, 998, 1, 999, 999, 998, 0, 0);
    }

    private static void ifAddedWhat() {
        ifAdded(MIXED, 1, 1, 7, 210, 8, 0, 0);
        ifAdded(MIXED, 1, 8, 30, 30, 8, 0, 1);
        ifAdded(MIXED, 1, 8, 60, 60, 8, 0, 0);
        ifAdded(MIXED, 1, 38, 60, 60, 38, 0, 0);
        ifAdded(MIXED, 3, 24, 45, 30, 8, 0, 1);
        ifAdded(MIXED, 1, 1, 2, -1, -1, 1, 0);
        ifAdded(MIXED, 1, 0, 5, -1, -1, 1, 0);
        ifAdded(MIXED, 1, 1, 3, -1, -1, 2, 0);
    }

    /** "NONE for both if those that are on would not be possible together" */
    private static void ifAddedWithAVoidOne() {
        ifAdded(EMPTY, 2, 1, 2, -1, -1, 0, 0);
        ifAdded(MIXED, 2, 1, 2, -1, -1, 2, 0);
        ifAdded(made -> Made.putElevenths(made, 9), 2, 1, 2, -1, -1, 9, 0);
        ifAdded(made -> Made.put(made, 2, 1, 2), 2, 1, 2, -1, -1, 1, 0);
        ifAdded(INSIDE, 2, 1, 2, -1, -1, 6, 0);
        ifAdded(INSIDE, 991, 1, 991, -1, -1, 6, 0);
    }

    private static void ifAddedToWhatIsNotPossible() {
        Twins.Calls apart = made -> Made.put(made, 1, 0, 2, 1, 1, 2);
        ifAdded(apart, 1, 0, 1, -1, -1, 0, 0);
        ifAdded(apart, 1, 0, 2, -1, -1, 1, 0);
        ifAdded(apart, 1, 1, 4, -1, -1, 1, 0);
        ifAdded(apart, 1, 1, 3, -1, -1, 0, 0);
        Twins.Calls voids = made -> Made.put(made, 2, 1, 2, 1, 0, 3);
        ifAdded(voids, 1, 0, 1, -1, -1, 1, 0);
        ifAdded(voids, 1, 0, 3, -1, -1, 1, 0);
        ifAdded(voids, 1, 1, 3, -1, -1, 2, 0);
        Twins.Calls oneIsOff = made -> {
            apart.on(made);
            made.toggle(0);
        };
        ifAdded(oneIsOff, 1, 0, 1, 2, 1, 0, 1);
        ifAdded(oneIsOff, 1, 0, 2, -1, -1, 1, 0);
        ifAdded(oneIsOff, 1, 1, 4, 4, 1, 0, 0);
    }

    /** "3: 1 if those that are on are possible together and tell it already" */
    private static void ifAddedTold() {
        Twins.Calls both = made -> Made.put(made, 1, 1, 4, 1, 2, 3);
        ifAdded(both, 1, 5, 12, 12, 5, 0, 1);
        ifAdded(both, 1, 5, 6, 12, 5, 0, 1);
        ifAdded(both, 1, 1, 2, 12, 5, 0, 1);
        ifAdded(both, 1, 0, 1, 12, 5, 0, 1);
        ifAdded(both, 2, 10, 24, 12, 5, 0, 1);
        ifAdded(both, 1, 5, 24, 24, 5, 0, 0);
        ifAdded(both, 1, 5, 9, 36, 5, 0, 0);
        ifAdded(both, 1, 5, 8, 24, 5, 0, 0);
        ifAdded(both, 1, 1, 8, 24, 17, 0, 0);
        ifAdded(both, 1, 11, 12, -1, -1, 1, 0);
        Twins.Calls off = made -> {
            both.on(made);
            made.toggle(0);
        };
        ifAdded(off, 1, 5, 12, 12, 5, 0, 0);
        ifAdded(off, 1, 2, 3, 3, 2, 0, 1);
    }

    /** "NONE also if add() would be refused with it": there are 10 */
    private static void ifAddedAsTheTenth() {
        ifAdded(made -> Made.putElevenths(made, 9), 1, 9, 11, -1, -1, 9, 0);
        ifAdded(made -> Made.putElevenths(made, 9), 1, 0, 11, -1, -1, 8, 0);
        ifAdded(TEN, 1, 9, 11, -1, -1, -1, -1);
        ifAdded(TEN, 2, 1, 2, -1, -1, -1, -1);
        Twins.Calls nine = made -> {
            for (int k = 0; k < 9; k++) {
                made.add(1, 1, 2);
            }
        };
        ifAdded(nine, 1, 1, 2, 2, 1, 0, 1);
        Twins.Calls ten = made -> {
            nine.on(made);
            made.add(1, 1, 2);
        };
        ifAdded(ten, 1, 1, 2, -1, -1, -1, -1);
        ifAdded(made -> {
            ten.on(made);
            made.toggle(0);
        }, 1, 1, 2, -1, -1, -1, -1);
        ifAdded(made -> {
            ten.on(made);
            made.remove(0);
        }, 1, 1, 2, 2, 1, 0, 1);
    }

    /** "NONE also if add() would be refused with it": N would be too great */
    private static void ifAddedUpToTheGreatestN() {
        ifAdded(FIVE_INSIDE, 1, 0, 17, Made.INSIDE_N, 0, 0, 0);
        ifAdded(FIVE_OUTSIDE, 1, 0, 37, -1, -1, -1, -1);
        ifAdded(FIVE_OUTSIDE, 27, 27, 999, -1, -1, -1, -1);
        ifAdded(FIVE_OUTSIDE, 1, 1, 23 * 37, -1, -1, -1, -1);
        ifAdded(FIVE_OUTSIDE, 1, 1, 23 * 31, -1, -1, 1, 0);
        ifAdded(FIVE_OUTSIDE, 1, 0, 31, Made.OUTSIDE_N_OF_FIVE * 31, 0, 0, 0);
        ifAdded(FIVE_OUTSIDE, 1, 30, 31, Made.OUTSIDE_N_OF_FIVE * 31, Made.OUTSIDE_N_OF_FIVE * times(31, 30), 0, 0);
        ifAdded(INSIDE, 1, 0, 28, Made.INSIDE_N, 0, 0, 1);
        ifAdded(INSIDE, 1, 1, 28, -1, -1, 2, 0);
        ifAdded(INSIDE, 1, 0, 3, -1, -1, -1, -1);
        ifAdded(INSIDE, 1, 1, 8, -1, -1, -1, -1);
        ifAdded(made -> {
            INSIDE.on(made);
            made.toggle(5);
        }, 1, 0, 13, Made.INSIDE_N / 17 * 13, 0, 0, 0);
        ifAdded(made -> {
            INSIDE.on(made);
            made.add(2, 1, 2);
        }, 1, 0, 3, -1, -1, -1, -1);
    }

    /** How often the N of five of OUTSIDE must be taken to leave the rest by m. */
    private static long times(int m, int rest) {
        for (long t = 0; t < m; t++) {
            if (Made.OUTSIDE_N_OF_FIVE % m * t % m == rest) {
                return t;
            }
        }
        return -1;
    }

    // ---- promise 23

    private static void withoutNumbers() {
        for (Twins.Calls state : new Twins.Calls[] {EMPTY, MIXED, TEN}) {
            int there = Twins.made(state).count(0);
            for (int wrong : new int[] {Integer.MIN_VALUE, -1, there, there + 1, 31, 32, Integer.MAX_VALUE}) {
                TWINS.badIndex("without: " + wrong, state, made -> made.without(wrong, 0));
                TWINS.badIndex("without: " + wrong + " 1", state, made -> made.without(wrong, 1));
                TWINS.badIndex("without: " + wrong + " 2", state, made -> made.without(wrong, 2));
            }
            for (int what : new int[] {Integer.MIN_VALUE, -1, 2, 3, Integer.MAX_VALUE}) {
                for (int k = 0; k < there; k++) {
                    int number = k;
                    TWINS.badArgument("without: " + k + " what " + what, state, made -> made.without(number, what));
                }
            }
        }
    }

    private static void without(Twins.Calls before, int number, long n, long r) {
        TWINS.looks("without: " + number + ", N", n, before, made -> made.without(number, 0));
        TWINS.looks("without: " + number + ", R", r, before, made -> made.without(number, 1));
    }

    private static void withoutOneOfThoseThatAreOn() {
        without(MIXED, 0, 15, 8);
        without(MIXED, 1, 6, 2);
        without(MIXED, 2, 30, 8);
        without(MIXED, 3, 30, 8);
        without(made -> Made.put(made, 1, 1, 2), 0, 1, 0);
        without(made -> Made.put(made, 2, 1, 2), 0, 1, 0);
        without(made -> Made.put(made, 1, 1, 2, 1, 1, 2), 0, 2, 1);
        Twins.Calls off = made -> {
            Made.put(made, 1, 1, 2);
            made.toggle(0);
        };
        without(off, 0, 1, 0);
    }

    /** "NONE for both if they would not be possible together" */
    private static void withoutOneThatContradicts() {
        Twins.Calls two = made -> Made.put(made, 1, 0, 2, 1, 1, 2);
        without(two, 0, 2, 1);
        without(two, 1, 2, 0);
        Twins.Calls three = made -> Made.put(made, 1, 0, 2, 1, 1, 2, 1, 1, 3);
        without(three, 0, 6, 1);
        without(three, 1, 6, 4);
        without(three, 2, -1, -1);
        Twins.Calls voids = made -> Made.put(made, 2, 1, 2, 2, 1, 2, 1, 1, 3);
        without(voids, 0, -1, -1);
        without(voids, 1, -1, -1);
        without(voids, 2, -1, -1);
        without(made -> {
            voids.on(made);
            made.toggle(0);
        }, 1, 3, 1);
        without(made -> {
            voids.on(made);
            made.toggle(0);
        }, 0, -1, -1);
        for (int k = 0; k < 10; k++) {
            without(TEN, k, -1, -1);
        }
    }

    private static void withoutAtTheGreatestN() {
        for (int k = 0; k < 6; k++) {
            without(INSIDE, k, Made.INSIDE_N / Made.INSIDE[k], 0);
        }
        SharedModuli last = new SharedModuli();
        for (int modulus : Made.INSIDE) {
            last.add(1, modulus - 1, modulus);
        }
        CHECK.due("without: R at a great N", last.without(5, 1), Made.INSIDE_N_OF_FIVE - 1);
    }

    // ---- promise 24

    private static void most(String name, int due, int... parts) {
        TWINS.looks("most: " + name, due, made -> Made.put(made, parts), made -> made.most());
    }

    private static void mostOfNone() {
        most("no conditions", 0);
        most("a void one", 0, 2, 1, 2);
        most("ten void ones", 0, 2, 1, 2, 2, 1, 2, 2, 1, 2, 2, 1, 2, 2, 1, 2, 2, 1, 2, 2, 1, 2, 2, 1, 2, 2, 1, 2, 2, 1, 2);
        most("one", 1, 1, 1, 2);
        most("a void one and another", 0b10, 2, 1, 2, 1, 1, 2);
        most("another and a void one", 0b01, 1, 1, 2, 2, 1, 2);
    }

    /** "of all sets of conditions (on or off)" */
    private static void mostOnOrOff() {
        SharedModuli made = Made.with(1, 0, 2, 1, 1, 2, 1, 1, 4);
        for (int switches = 0; switches < 8; switches++) {
            CHECK.due("most: on or off", made.most(), 0b110);
            made.toggle(Integer.numberOfTrailingZeros(switches + 1) % 3);
        }
        made.remove(1);
        CHECK.due("most: without the middle one", made.most(), 0b01);
        made.undo();
        CHECK.due("most: with it again", made.most(), 0b110);
    }

    /** "one with the most conditions, of several the one with the least mask" */
    private static void mostWithTheLeastMask() {
        most("of two the first", 0b01, 1, 0, 2, 1, 1, 2);
        most("of three the first", 0b001, 1, 0, 3, 1, 1, 3, 1, 2, 3);
        most("the middle pair, not the outer one", 0b0110, 1, 0, 3, 1, 1, 3, 1, 1, 3, 1, 0, 3);
        most("the first pair, not the last one", 0b0011, 1, 0, 3, 1, 0, 3, 1, 1, 3, 1, 1, 3);
        most("0 and 2, not 1 and 3", 0b0101, 1, 0, 3, 1, 1, 3, 1, 0, 3, 1, 1, 3);
        most("the last three, not the first pair", 0b11100, 1, 0, 3, 1, 0, 3, 1, 1, 3, 1, 1, 3, 1, 1, 3);
        most("the first three, not the last pair", 0b00111, 1, 0, 3, 1, 0, 3, 1, 0, 3, 1, 1, 3, 1, 1, 3);
        most("three that agree in pairs with the last", 0b1001, 1, 0, 3, 1, 1, 3, 1, 2, 3, 1, 1, 2);
        most("all numbers are in it", 0b1001, 1, 0, 2, 1, 1, 2, 2, 1, 2, 1, 0, 1);
        most("each two agree", 0b111, 1, 0, 6, 1, 4, 10, 1, 9, 15);
        most("a pair of three that contradict by twos", 0b011, 1, 0, 6, 1, 4, 10, 1, 8, 15);
    }

    private static void mostOfTen() {
        TWINS.looks("most: of ten that contradict", 1, TEN, made -> made.most());
        most("all ten", 1023, 1, 0, 2, 1, 0, 4, 1, 0, 8, 1, 0, 16, 1, 0, 32, 1, 0, 64, 1, 0, 128, 1, 0, 256, 1, 0, 512, 1, 0, 3);
        most("all but the first", 1022, 1, 1, 2, 1, 0, 4, 1, 0, 8, 1, 0, 16, 1, 0, 32, 1, 0, 64, 1, 0, 128, 1, 0, 256,
            1, 0, 512, 1, 0, 3);
        most("all but the last", 511, 1, 0, 2, 1, 0, 4, 1, 0, 8, 1, 0, 16, 1, 0, 32, 1, 0, 64, 1, 0, 128, 1, 0, 256,
            1, 0, 512, 1, 1, 8);
        most("the last five", 0b1111100000, 1, 0, 5, 1, 0, 5, 1, 0, 5, 1, 0, 5, 1, 1, 5, 1, 2, 5, 1, 2, 5, 1, 2, 5, 1, 2, 5,
            1, 2, 5);
        SharedModuli wide = new SharedModuli();
        Made.putModuli(wide, Made.OUTSIDE, 5);
        wide.toggle(0);
        wide.add(1, 0, 37);
        CHECK.due("most: N does not matter", wide.most(), 63);
    }

    // ---- promise 25

    private static void blame(String name, int due, int... parts) {
        TWINS.looks("blame: " + name, due, made -> Made.put(made, parts), made -> made.blame());
    }

    /** "NONE if those that are on are possible together" */
    private static void blameOfThePossible() {
        blame("no conditions", -1);
        blame("one", -1, 1, 1, 2);
        blame("two that agree", -1, 1, 1, 2, 1, 1, 4);
        blame("two that contradict", 0, 1, 1, 2, 1, 0, 4);
        TWINS.looks("blame: six at the greatest N", -1, INSIDE, made -> made.blame());
    }

    /** "the one with which most others that are on do not agree ... of several the lowest one" */
    private static void blameTheLowest() {
        TWINS.looks("blame: of ten the lowest", 0, TEN, made -> made.blame());
        blame("the first has none against it", 1, 1, 0, 3, 1, 0, 2, 1, 1, 2);
        blame("the last has two against it", 2, 1, 0, 2, 1, 0, 4, 1, 1, 2);
        blame("the middle one has two against it", 1, 1, 0, 2, 1, 1, 2, 1, 0, 4);
        blame("the first has two against it", 0, 1, 1, 2, 1, 0, 2, 1, 0, 4);
        blame("two have two against them", 0, 1, 0, 6, 1, 1, 2, 1, 1, 3, 1, 0, 5);
        blame("two pairs", 0, 1, 0, 2, 1, 0, 3, 1, 1, 2, 1, 1, 3);
        blame("the last of ten", 9, 1, 0, 2, 1, 0, 2, 1, 0, 2, 1, 0, 2, 1, 0, 2, 1, 0, 2, 1, 0, 2, 1, 0, 2, 1, 0, 2, 1, 1, 2);
    }

    /** "(a void one counts as if all did not agree, it too)" */
    private static void blameAVoidOne() {
        blame("a void one alone", 0, 2, 1, 2);
        blame("a void one behind one that has as many others against it", 1, 1, 0, 2, 2, 1, 2);
        blame("a void one behind two that contradict", 2, 1, 0, 2, 1, 1, 2, 2, 1, 2);
        blame("a void one ahead of two that contradict", 0, 2, 1, 2, 1, 0, 2, 1, 1, 2);
        blame("of two void ones the lowest", 1, 1, 0, 2, 2, 1, 2, 2, 1, 4);
        blame("the tenth of ten is void", 9, 1, 0, 11, 1, 1, 11, 1, 2, 11, 1, 3, 11, 1, 4, 11, 1, 5, 11, 1, 6, 11, 1, 7, 11,
            1, 8, 11, 2, 1, 2);
    }

    private static void blameThoseThatAreOn() {
        SharedModuli made = Made.with(1, 1, 2, 2, 1, 2, 1, 0, 2, 1, 0, 4);
        CHECK.due("blame: the void one", made.blame(), 1);
        made.toggle(1);
        CHECK.due("blame: it is off, so the first", made.blame(), 0);
        made.toggle(0);
        CHECK.due("blame: the rest agree", made.blame(), -1);
        made.toggle(3);
        made.toggle(0);
        CHECK.due("blame: of two the lowest", made.blame(), 0);
        made.toggle(0);
        made.toggle(1);
        CHECK.due("blame: the void one again", made.blame(), 1);
        made.toggle(2);
        CHECK.due("blame: the void one alone is on", made.blame(), 1);
        made.toggle(1);
        CHECK.due("blame: all are off", made.blame(), -1);
    }

    // ---- promise 26

    private static void density(String name, double due, Twins.Calls before) {
        CHECK.dueDouble("density: " + name, Twins.made(before).density(), due);
        TWINS.looks("density: " + name, Double.doubleToLongBits(due), before, made -> Double.doubleToLongBits(made.density()));
    }

    private static void densities() {
        density("no conditions", 1.0, EMPTY);
        density("all numbers", 1.0, made -> Made.put(made, 1, 0, 1, 5, 5, 5));
        density("half of them", 0.5, made -> Made.put(made, 1, 1, 2));
        density("a third", 1.0 / 3.0, made -> Made.put(made, 1, 1, 3));
        density("two that contradict", 0.0, made -> Made.put(made, 1, 1, 2, 1, 0, 2));
        density("a void one", 0.0, made -> Made.put(made, 2, 1, 2));
        density("mixed", 1.0 / 30.0, MIXED);
        density("the greatest N", 1.0 / (double) Made.INSIDE_N, INSIDE);
        density("five of it", 1.0 / (double) Made.INSIDE_N_OF_FIVE, FIVE_INSIDE);
        density("all are off", 1.0, made -> {
            Made.put(made, 2, 1, 2);
            made.toggle(0);
        });
        for (int m = 1; m <= 999; m++) {
            SharedModuli made = Made.with(1, 0, m);
            CHECK.dueDouble("density: by " + m, made.density(), 1.0 / m);
        }
    }

    // ---- promise 27

    private static long hash(long before, long... values) {
        long hash = before;
        for (long value : values) {
            hash = 31 * hash + value;
        }
        return hash;
    }

    /** The list of promise 27, read off another object that was made alike. */
    private static long listed(SharedModuli of, String buffer) {
        long hash = 2791;
        for (int what = 0; what <= 6; what++) {
            hash = hash(hash, of.count(what));
        }
        hash = hash(hash, of.joined(0), of.joined(1));
        for (int k = 0; k < of.count(0); k++) {
            for (int what = 0; what <= 8; what++) {
                hash = hash(hash, of.condition(k, what));
            }
            for (int other = 0; other < of.count(0); other++) {
                hash = hash(hash, of.agrees(k, other));
            }
            hash = hash(hash, of.without(k, 0), of.without(k, 1));
        }
        for (int p : new int[] {2, 3, 5, 7, 11, 13}) {
            hash = hash(hash, of.prime(p, 0), of.prime(p, 1), of.prime(p, 2), of.prime(p, 3));
        }
        hash = hash(hash, of.answer(0, 0), of.answer(0, 1), of.answer(0, 2), of.answer(1000, 0));
        hash = hash(hash, of.nearest(500), of.between(0, 9999), of.misses(0), of.misses(100));
        hash = hash(hash, of.ifAdded(3, 1, 10, 0), of.ifAdded(3, 1, 10, 1), of.ifAdded(3, 1, 10, 2), of.ifAdded(3, 1, 10, 3));
        hash = hash(hash, of.most(), of.blame(), Double.doubleToLongBits(of.density()), buffer.length());
        for (int k = 0; k < buffer.length(); k++) {
            hash = hash(hash, buffer.charAt(k));
        }
        return hash;
    }

    private static void digests(String name, Twins.Calls before, String buffer) {
        TWINS.looks("digest: " + name, listed(Twins.made(before), buffer), before, made -> made.digest());
    }

    private static void digestByItsList() {
        digests("new", EMPTY, "");
        digests("mixed", MIXED, "x=1");
        digests("ten", TEN, "");
        digests("100 is an answer", made -> Made.put(made, 1, 0, 50), "");
        digests("99 is an answer", made -> Made.put(made, 1, 0, 99), "");
        digests("1000 is an answer, 9999 too", made -> Made.put(made, 1, 1, 999, 1, 0, 9), "");
        digests("9999 is an answer", made -> Made.put(made, 1, 9, 999), "");
        digests("at the greatest N", INSIDE, "");
        digests("ten that agree, 60 characters", made -> {
            Made.putModuli(made, new int[] {2, 4, 8, 16, 32, 3, 9, 27, 81, 1}, 10);
            Made.type(made, "!~x=0%1;90".repeat(6));
        }, "!~x=0%1;90".repeat(6));
        digests("a void one and one that is off", made -> {
            Made.put(made, 2, 1, 2, 1, 5, 6, 1, 5, 7);
            made.toggle(1);
            made.append('~');
        }, "~");
        SharedModuli made = Twins.made(TEN);
        long ten = made.digest();
        made.undo();
        made.add(1, 9, 11);
        CHECK.due("digest: alike, so the same", made.digest(), ten);
        made.append('!');
        CHECK.isTrue("digest: another by the buffer", made.digest() != ten);
        made.clearBuffer();
        made.toggle(0);
        CHECK.isTrue("digest: another by a switch", made.digest() != ten);
        made.toggle(0);
        CHECK.due("digest: as before", made.digest(), ten);
    }
}
