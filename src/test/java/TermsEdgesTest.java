/** The boundary cases that the document names in 'Terms': Conditions and Primes, sentence by sentence. */
public final class TermsEdgesTest {
    private static final Check CHECK = new Check("TermsEdgesTest");
    private static final Twins TWINS = new Twins(CHECK);
    private static final int[] PRIMES = {2, 3, 5, 7, 11, 13, 17, 19, 23, 29, 31};

    public static void main(String[] args) {
        aPrimeIsAboveOneAndDividedByOneAndItselfAlone();
        atMostTenConditions();
        numbersInTheOrderInWhichTheyCame();
        numbersBehindARemovedOneAreLessByOne();
        factorRemainderModulus();
        onAtFirstOrOff();
        voidIfTheCommonDivisorDoesNotDivide();
        whatAConditionComesTo();
        everyShortConditionByTrial();
        agreeIfNeitherIsVoid();
        agreeByTheCommonDivisor();
        possibleTogether();
        leastCommonMultipleAndOneRemainder();
        withoutConditions();
        nUpToTheLimit();
        nIsAskedByBareModuli();
        nIsAskedOfThoseThatAreOnAndNotVoid();
        nIsAskedWhetherTheyAgreeOrNot();
        answersAreNotBelowZero();
        greatestPowers();
        aVoidOneAsksForNothing();
        theStrongest();
        noneIfAllAskForThePowerOne();
        CHECK.end();
    }

    private static boolean isPrime(int p) {
        int divisors = 0;
        for (int d = 1; d <= p; d++) {
            divisors += p % d == 0 ? 1 : 0;
        }
        return divisors == 2;
    }

    /** "A prime is a whole number above 1 that only 1 and itself divide." */
    private static void aPrimeIsAboveOneAndDividedByOneAndItselfAlone() {
        SharedModuli made = Made.with(1, 0, 30);
        for (int p = 2; p <= 31; p++) {
            int tried = p;
            if (isPrime(p)) {
                CHECK.due("prime " + p + ", 1", made.prime(p, 1), 30 % p == 0 ? p : 1);
            } else {
                CHECK.badArgument("prime " + p + ", 1", () -> made.prime(tried, 1));
            }
        }
    }

    /** "There are at most 10 conditions" */
    private static void atMostTenConditions() {
        SharedModuli made = new SharedModuli();
        Made.putElevenths(made, 9);
        CHECK.due("add: the tenth", made.add(1, 9, 11), 9);
        CHECK.due("ten conditions", made.count(0), 10);
        CHECK.badState("add: an eleventh", () -> made.add(1, 10, 11));
        CHECK.due("still ten", made.count(0), 10);
        CHECK.badIndex("no number 10", () -> made.condition(10, 0));
        CHECK.due("number 9", made.condition(9, 1), 9);
        made.toggle(0);
        CHECK.badState("add: those that are off count too", () -> made.add(1, 10, 11));
        CHECK.due("remove", made.remove(0), 9);
        CHECK.due("add: there is room again", made.add(1, 10, 11), 9);
        CHECK.badState("add: and then none", () -> made.add(1, 10, 11));
        made.undo();
        CHECK.due("add: there is room after undo too", made.add(2, 1, 2), 9);
        CHECK.badState("add: void ones count too", () -> made.add(1, 0, 1));
    }

    /** "numbered from 0 in the order in which they came" */
    private static void numbersInTheOrderInWhichTheyCame() {
        SharedModuli made = new SharedModuli();
        for (int k = 0; k < 10; k++) {
            CHECK.due("the number of " + k, made.add(1, k, 11), k);
            for (int before = 0; before <= k; before++) {
                CHECK.due("number " + before, made.condition(before, 1), before);
            }
        }
    }

    /** "(if one is removed, those behind it have numbers that are less by 1)" */
    private static void numbersBehindARemovedOneAreLessByOne() {
        for (int gone = 0; gone < 10; gone++) {
            SharedModuli made = new SharedModuli();
            Made.put(made, 1, 0, 2, 1, 1, 2, 1, 2, 4, 1, 3, 4, 2, 5, 4, 1, 5, 6, 1, 6, 9, 1, 7, 9, 1, 8, 16, 1, 9, 16);
            int[][] agreed = new int[10][10];
            for (int k = 0; k < 100; k++) {
                agreed[k / 10][k % 10] = made.agrees(k / 10, k % 10);
            }
            int[] remainders = {0, 1, 2, 3, 5, 5, 6, 7, 8, 9};
            made.toggle(3);
            made.toggle(8);
            made.remove(gone);
            for (int k = 0; k < 9; k++) {
                int was = k < gone ? k : k + 1;
                CHECK.due("without " + gone + ": remainder of " + k, made.condition(k, 1), remainders[was]);
                CHECK.due("without " + gone + ": switch of " + k, made.condition(k, 3), was == 3 || was == 8 ? 0 : 1);
                for (int other = 0; other < 9; other++) {
                    int otherWas = other < gone ? other : other + 1;
                    CHECK.due("without " + gone + ": " + k + " and " + other, made.agrees(k, other), agreed[was][otherWas]);
                }
            }
            CHECK.badIndex("without " + gone + ": number 9", () -> made.condition(9, 0));
        }
    }

    /** "a factor a, 1 to 999, a remainder b, 0 to 999, and a modulus m, 1 to 999" */
    private static void factorRemainderModulus() {
        for (int[] parts : new int[][] {{1, 0, 1}, {999, 999, 999}, {2, 1, 2}, {998, 998, 998}, {1, 999, 1}, {999, 0, 1}}) {
            SharedModuli made = Made.with(parts);
            for (int what = 0; what <= 2; what++) {
                CHECK.due("condition " + what, made.condition(0, what), parts[what]);
            }
        }
        for (int[] parts : new int[][] {{0, 0, 1}, {1000, 0, 1}, {1, -1, 1}, {1, 1000, 1}, {1, 0, 0}, {1, 0, 1000},
            {0, -1, 0}, {-1, 0, 1}, {1, 0, -1}, {1000, 1000, 1000}}) {
            TWINS.badArgument("add " + parts[0] + " " + parts[1] + " " + parts[2], made -> made.add(1, 1, 2),
                made -> made.add(parts[0], parts[1], parts[2]));
        }
    }

    /** "It is on, at first, or off." */
    private static void onAtFirstOrOff() {
        SharedModuli made = Made.with(1, 1, 2);
        CHECK.due("on at first", made.condition(0, 3), 1);
        CHECK.due("off", made.toggle(0), 0);
        CHECK.due("off then", made.condition(0, 3), 0);
        made.add(2, 1, 2);
        CHECK.due("the next is on at first, void too", made.condition(1, 3), 1);
        CHECK.due("the other stays off", made.condition(0, 3), 0);
        Made.type(made, "x=1%3");
        made.read();
        CHECK.due("one that is read is on at first", made.condition(2, 3), 1);
    }

    private static void comesTo(int a, int b, int m, int n, int r) {
        String name = a + "x=" + b + "%" + m;
        SharedModuli made = Made.with(a, b, m);
        CHECK.due(name + ": void", made.condition(0, 4), n < 0 ? 1 : 0);
        CHECK.due(name + ": bare modulus", made.condition(0, 5), n);
        CHECK.due(name + ": bare remainder", made.condition(0, 6), r);
        CHECK.due(name + ": N", made.joined(0), n);
        CHECK.due(name + ": R", made.joined(1), r);
        CHECK.due(name + ": possible", made.count(4), n < 0 ? 0 : 1);
    }

    private static void isVoid(int a, int b, int m) {
        comesTo(a, b, m, -1, -1);
    }

    /** "If g does not divide b, the condition is void: no number fulfils it." */
    private static void voidIfTheCommonDivisorDoesNotDivide() {
        comesTo(6, 0, 12, 2, 0);
        isVoid(6, 1, 12);
        isVoid(6, 5, 12);
        comesTo(6, 6, 12, 2, 1);
        isVoid(6, 7, 12);
        isVoid(6, 11, 12);
        comesTo(6, 12, 12, 2, 0);
        isVoid(6, 13, 12);
        isVoid(999, 1, 999);
        isVoid(999, 998, 999);
        comesTo(999, 999, 999, 1, 0);
        comesTo(999, 0, 999, 1, 0);
        isVoid(500, 499, 750);
        comesTo(500, 500, 750, 3, 1);
        SharedModuli made = Made.with(6, 7, 12);
        for (int x = 0; x <= 24; x++) {
            CHECK.due("no number fulfils it: " + x, made.misses(x), 1);
        }
        CHECK.due("no answers", made.between(0, 1000000000000000L), 0);
    }

    /** "x leaves the remainder r when it is divided by n, with n = m / g, and one r only, 0 to n - 1" */
    private static void whatAConditionComesTo() {
        comesTo(1, 0, 1, 1, 0);
        comesTo(1, 999, 1, 1, 0);
        comesTo(999, 999, 1, 1, 0);
        comesTo(1, 0, 2, 2, 0);
        comesTo(1, 1, 2, 2, 1);
        comesTo(1, 2, 2, 2, 0);
        comesTo(1, 0, 999, 999, 0);
        comesTo(1, 998, 999, 999, 998);
        comesTo(1, 999, 999, 999, 0);
        comesTo(1, 998, 998, 998, 0);
        comesTo(1, 999, 998, 998, 1);
        comesTo(998, 1, 999, 999, 998);
        comesTo(998, 998, 999, 999, 1);
        comesTo(998, 0, 999, 999, 0);
        comesTo(999, 1, 2, 2, 1);
        comesTo(12, 4, 4, 1, 0);
        comesTo(13, 4, 4, 4, 0);
    }

    private static int least(int a, int b, int m) {
        for (int x = 0; x < m; x++) {
            if ((a * x - b) % m == 0) {
                return x;
            }
        }
        return -1;
    }

    private static void everyShortConditionByTrial() {
        for (int a = 1; a <= 13; a++) {
            for (int m = 1; m <= 13; m++) {
                for (int b = 0; b <= 14; b++) {
                    SharedModuli made = Made.with(a, b, m);
                    int r = least(a, b, m);
                    CHECK.due(a + "x=" + b + "%" + m + ": r", made.condition(0, 6), r);
                    int next = r + 1;
                    while (r >= 0 && (a * next - b) % m != 0) {
                        next++;
                    }
                    CHECK.due(a + "x=" + b + "%" + m + ": n", made.condition(0, 5), r < 0 ? -1 : next - r);
                }
            }
        }
    }

    private static void agree(int due, int... parts) {
        SharedModuli made = Made.with(parts);
        String name = parts[0] + "x=" + parts[1] + "%" + parts[2] + " and " + parts[3] + "x=" + parts[4] + "%" + parts[5];
        CHECK.due(name + " agree", made.agrees(0, 1), due);
        CHECK.due(name + " agree, turned round", made.agrees(1, 0), due);
        CHECK.due(name + " are possible together", made.count(4), due);
        CHECK.due(name + " are a pair that does not agree", made.count(3), 1 - due);
        CHECK.due(name + ": those against the first", made.condition(0, 7), 1 - due);
    }

    /** "Two conditions agree if neither is void" */
    private static void agreeIfNeitherIsVoid() {
        agree(1, 2, 2, 4, 1, 1, 4);
        agree(0, 2, 1, 4, 1, 1, 4);
        agree(0, 1, 1, 4, 2, 1, 4);
        agree(0, 2, 1, 4, 2, 1, 4);
        agree(0, 2, 1, 4, 1, 0, 1);
    }

    /** "their bare remainders leave the same remainder by the greatest common divisor of both bare moduli" */
    private static void agreeByTheCommonDivisor() {
        agree(1, 1, 0, 998, 1, 998, 999);
        agree(1, 1, 0, 1, 1, 998, 999);
        agree(1, 1, 5, 12, 1, 5, 18);
        agree(1, 1, 5, 12, 1, 11, 18);
        agree(1, 1, 11, 12, 1, 17, 18);
        agree(0, 1, 5, 12, 1, 4, 18);
        agree(0, 1, 5, 12, 1, 6, 18);
        agree(0, 1, 5, 12, 1, 8, 18);
        agree(1, 1, 998, 999, 1, 998, 999);
        agree(0, 1, 998, 999, 1, 997, 999);
        agree(0, 1, 0, 999, 1, 998, 999);
        agree(1, 1, 0, 999, 1, 999, 999);
        agree(1, 6, 6, 12, 1, 7, 8);
        agree(0, 6, 6, 12, 1, 6, 8);
        agree(1, 6, 6, 12, 5, 3, 3);
    }

    /** "Some conditions are possible together just if none is void, and each two of them agree." */
    private static void possibleTogether() {
        CHECK.due("none", new SharedModuli().count(4), 1);
        CHECK.due("a single one", Made.with(1, 1, 2).count(4), 1);
        CHECK.due("a single void one", Made.with(2, 1, 2).count(4), 0);
        CHECK.due("three, each two agree", Made.with(1, 5, 6, 1, 5, 10, 1, 5, 15).count(4), 1);
        CHECK.due("the first and second do not", Made.with(1, 5, 6, 1, 0, 10, 1, 5, 15).count(4), 0);
        CHECK.due("the first and third do not", Made.with(1, 1, 6, 1, 5, 10, 1, 5, 15).count(4), 0);
        CHECK.due("the second and third do not", Made.with(1, 5, 6, 1, 3, 10, 1, 5, 15).count(4), 0);
        CHECK.due("three, the last is void", Made.with(1, 5, 6, 1, 5, 10, 5, 1, 15).count(4), 0);
        SharedModuli made = Made.with(1, 5, 6, 1, 5, 10, 1, 5, 15, 1, 5, 4, 1, 5, 9, 1, 5, 25, 1, 5, 8, 1, 5, 27, 1, 5, 125);
        CHECK.due("nine", made.count(4), 1);
        made.add(1, 4, 5);
        CHECK.due("ten, the last against some", made.count(4), 0);
        made.undo();
        made.add(1, 0, 5);
        CHECK.due("ten", made.count(4), 1);
    }

    private static void joined(long n, long r, int... parts) {
        SharedModuli made = Made.with(parts);
        CHECK.due("N of " + parts.length / 3 + " conditions", made.joined(0), n);
        CHECK.due("R of " + parts.length / 3 + " conditions, N " + n, made.joined(1), r);
        CHECK.due("R is an answer", made.misses(r), 0);
    }

    /** "N is the least common multiple of their bare moduli, and R is one number only, 0 to N - 1" */
    private static void leastCommonMultipleAndOneRemainder() {
        joined(12, 0, 1, 0, 4, 1, 0, 6);
        joined(12, 11, 1, 3, 4, 1, 5, 6);
        joined(12, 1, 1, 1, 4, 1, 1, 6);
        joined(12, 10, 1, 2, 4, 1, 4, 6);
        joined(997002, 997001, 1, 997, 998, 1, 998, 999);
        joined(997002, 0, 1, 998, 998, 1, 999, 999);
        joined(999, 998, 1, 998, 999, 1, 332, 333, 1, 998, 999);
        joined(8, 7, 1, 1, 2, 1, 3, 4, 1, 7, 8);
        joined(8, 7, 1, 7, 8, 1, 3, 4, 1, 1, 2);
        joined(1, 0, 1, 0, 1, 999, 999, 999, 1, 999, 1);
        joined(2, 1, 499, 499, 998);
    }

    /** "Without conditions N is 1, and R is 0." */
    private static void withoutConditions() {
        SharedModuli made = new SharedModuli();
        CHECK.due("N of none", made.joined(0), 1);
        CHECK.due("R of none", made.joined(1), 0);
        made.add(1, 1, 2);
        CHECK.due("N of one", made.joined(0), 2);
        CHECK.due("R of one", made.joined(1), 1);
        CHECK.due("N without it", made.without(0, 0), 1);
        CHECK.due("R without it", made.without(0, 1), 0);
        made.toggle(0);
        CHECK.due("N of none that is on", made.joined(0), 1);
        CHECK.due("R of none that is on", made.joined(1), 0);
        made.remove(0);
        CHECK.due("N of none again", made.joined(0), 1);
    }

    /** "must not come to an N above 1000000000000000 ...; what would lead to this is refused" */
    private static void nUpToTheLimit() {
        SharedModuli made = new SharedModuli();
        Made.putModuli(made, Made.INSIDE, 6);
        CHECK.due("N just inside", made.joined(0), Made.INSIDE_N);
        CHECK.due("R just inside", made.joined(1), 0);
        SharedModuli greatest = new SharedModuli();
        for (int modulus : Made.INSIDE) {
            greatest.add(1, modulus - 1, modulus);
        }
        CHECK.due("R just inside, the greatest", greatest.joined(1), Made.INSIDE_N - 1);
        TWINS.badState("N just outside", to -> Made.putModuli(to, Made.OUTSIDE, 5), to -> to.add(1, 0, 37));
        SharedModuli outside = new SharedModuli();
        Made.putModuli(outside, Made.OUTSIDE, 5);
        CHECK.due("one prime less is inside", outside.add(1, 0, 31), 5);
        CHECK.due("N then", outside.joined(0), Made.OUTSIDE_N_OF_FIVE * 31);
    }

    /** "if this is asked by bare moduli alone" */
    private static void nIsAskedByBareModuli() {
        SharedModuli made = new SharedModuli();
        Made.putModuli(made, Made.INSIDE, 6);
        CHECK.due("bare modulus 1 of modulus 998", made.add(499, 0, 499), 6);
        CHECK.due("bare modulus 17 of modulus 969", made.add(57, 0, 969), 7);
        CHECK.due("bare modulus 4 of modulus 116, as 332 has it", made.add(29, 0, 29 * 4), 8);
        CHECK.badState("bare modulus 8 of modulus 232", () -> made.add(29, 0, 29 * 8));
        CHECK.due("N is as before", made.joined(0), Made.INSIDE_N);
        SharedModuli six = new SharedModuli();
        for (int modulus : Made.INSIDE) {
            int factor = 999 / modulus;
            six.add(factor, 0, factor * modulus);
        }
        CHECK.due("all six by factors", six.joined(0), Made.INSIDE_N);
    }

    /** "The conditions that are on ..." "(of those that are not void ...)" */
    private static void nIsAskedOfThoseThatAreOnAndNotVoid() {
        SharedModuli made = new SharedModuli();
        Made.putModuli(made, Made.OUTSIDE, 5);
        CHECK.due("a void one of modulus 74", made.add(2, 1, 74), 5);
        CHECK.badState("with 37", () -> made.add(1, 0, 37));
        made.toggle(0);
        CHECK.due("with 37, another is off", made.add(1, 0, 37), 6);
        CHECK.badState("the other on again", () -> made.toggle(0));
        made.toggle(6);
        CHECK.due("the other on again, with 37 off", made.toggle(0), 1);
    }

    /** "whether they agree or not" */
    private static void nIsAskedWhetherTheyAgreeOrNot() {
        TWINS.badState("two by 857 contradict, so nothing is possible", made -> {
            Made.putModuli(made, Made.OUTSIDE, 5);
            made.add(1, 1, 857);
        }, made -> made.add(1, 0, 37));
        TWINS.badState("a void one is there, so nothing is possible", made -> {
            Made.putModuli(made, Made.OUTSIDE, 5);
            made.add(2, 1, 2);
        }, made -> made.add(1, 0, 37));
        TWINS.badState("one by 23 times 37, it contradicts 943 by 23", made -> Made.putModuli(made, Made.OUTSIDE, 5),
            made -> made.add(1, 1, 23 * 37));
        TWINS.undoable("one by 23 times 31", 5, made -> Made.putModuli(made, Made.OUTSIDE, 5),
            made -> made.add(1, 1, 23 * 31));
        SharedModuli made = new SharedModuli();
        Made.putModuli(made, Made.INSIDE, 6);
        CHECK.due("one that contradicts by the same modulus", made.add(1, 1, 979), 6);
        CHECK.due("it is not possible then", made.joined(0), -1);
        CHECK.badState("N is asked all the same", () -> made.add(1, 1, 3));
    }

    /** "The answers are the numbers of 0 or more that fulfil all conditions that are on." */
    private static void answersAreNotBelowZero() {
        SharedModuli made = Made.with(1, 9, 10);
        CHECK.due("the least answer", made.answer(0, 0), 9);
        CHECK.due("nearest to 0, not -1", made.nearest(0), 9);
        CHECK.due("nearest to 4, not -1", made.nearest(4), 9);
        CHECK.due("between 0 and 8", made.between(0, 8), 0);
        SharedModuli zero = Made.with(1, 0, 10);
        CHECK.due("0 is one", zero.answer(0, 0), 0);
        CHECK.due("0 is one of two", zero.between(0, 10), 2);
        CHECK.due("all numbers", new SharedModuli().answer(0, 0), 0);
    }

    /** "the greatest power of p that divides it" */
    private static void greatestPowers() {
        for (int m = 1; m <= 999; m++) {
            SharedModuli made = Made.with(1, 999, m);
            for (int p : PRIMES) {
                int power = 1;
                while (m % (power * p) == 0) {
                    power *= p;
                }
                CHECK.due("the power of " + p + " in " + m, made.prime(p, 1), power);
                CHECK.due("the remainder by it", made.prime(p, 2), 999 % m % power);
            }
        }
        for (int[] last : new int[][] {{2, 512}, {3, 729}, {5, 625}, {7, 343}, {11, 121}, {13, 169}, {17, 289},
            {19, 361}, {23, 529}, {29, 841}, {31, 961}}) {
            SharedModuli made = Made.with(1, last[1] - 1, last[1]);
            CHECK.due("the last power of " + last[0], made.prime(last[0], 1), last[1]);
            CHECK.due("the greatest remainder by it", made.prime(last[0], 2), last[1] - 1);
            SharedModuli zero = Made.with(1, 0, last[1]);
            CHECK.due("the least remainder by it", zero.prime(last[0], 2), 0);
        }
        CHECK.due("of the bare modulus, not of the modulus", Made.with(4, 4, 8).prime(2, 1), 2);
        CHECK.due("none is left in the bare modulus", Made.with(8, 8, 8).prime(2, 1), 1);
    }

    /** "For a prime p, a condition that is not void asks ..." */
    private static void aVoidOneAsksForNothing() {
        SharedModuli made = Made.with(2, 1, 512, 1, 1, 2);
        CHECK.due("the strongest is not the void one", made.prime(2, 0), 1);
        CHECK.due("its power", made.prime(2, 1), 2);
        CHECK.due("it contradicts nothing by 2", made.prime(2, 3), 0);
        made.toggle(1);
        CHECK.due("a void one alone", made.prime(2, 0), -1);
        CHECK.due("a void one alone, power", made.prime(2, 1), 1);
    }

    /** "the strongest one for p is the one that asks for the greatest power, of several the lowest one" */
    private static void theStrongest() {
        CHECK.due("4 before 2", Made.with(1, 0, 2, 1, 1, 4).prime(2, 0), 1);
        CHECK.due("2 behind 4", Made.with(1, 0, 4, 1, 1, 2).prime(2, 0), 0);
        SharedModuli made = Made.with(1, 0, 2, 1, 1, 12, 1, 2, 20, 1, 3, 4);
        CHECK.due("of three by 4 the lowest", made.prime(2, 0), 1);
        CHECK.due("with its remainder", made.prime(2, 2), 1);
        CHECK.due("against it are the other three", made.prime(2, 3), 3);
        made.toggle(1);
        CHECK.due("then the next", made.prime(2, 0), 2);
        CHECK.due("with its remainder", made.prime(2, 2), 2);
        made.toggle(2);
        CHECK.due("then the last", made.prime(2, 0), 3);
        made.toggle(3);
        CHECK.due("then the one by 2", made.prime(2, 0), 0);
        made.toggle(1);
        CHECK.due("one that is on again", made.prime(2, 0), 1);
        SharedModuli ten = new SharedModuli();
        Made.putModuli(ten, new int[] {1, 3, 9, 3, 1, 9, 27, 81, 243, 729}, 10);
        CHECK.due("the tenth of ten", ten.prime(3, 0), 9);
    }

    /** "(none, if all ask for the power 1 alone)" */
    private static void noneIfAllAskForThePowerOne() {
        for (SharedModuli made : new SharedModuli[] {new SharedModuli(), Made.with(1, 0, 1), Made.with(1, 0, 3, 1, 4, 5),
            Made.with(2, 1, 2), Made.with(2, 0, 2)}) {
            CHECK.due("none", made.prime(2, 0), -1);
            CHECK.due("the power 1", made.prime(2, 1), 1);
            CHECK.due("the remainder 0", made.prime(2, 2), 0);
            CHECK.due("none against it", made.prime(2, 3), 0);
            made.add(1, 1, 2);
            CHECK.due("then the last one", made.prime(2, 0), made.count(0) - 1);
        }
    }
}
