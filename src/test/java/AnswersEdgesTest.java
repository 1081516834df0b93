/** The boundary cases that the document names in promises 18 to 21, sentence by sentence. */
public final class AnswersEdgesTest {
    private static final Check CHECK = new Check("AnswersEdgesTest");
    private static final Twins TWINS = new Twins(CHECK);
    private static final long GREATEST = 1000000000000000L;
    private static final long[] WRONG = {Long.MIN_VALUE, -GREATEST, -2, -1, GREATEST + 1, GREATEST + 2, 1L << 62,
        Long.MAX_VALUE};
    private static final Twins.Calls EMPTY = made -> { };
    private static final Twins.Calls TENS = made -> Made.put(made, 1, 3, 10);
    private static final Twins.Calls APART = made -> Made.put(made, 1, 0, 2, 1, 1, 2);
    private static final Twins.Calls VOID = made -> Made.put(made, 2, 1, 2);

    /** R is N - 1 at the greatest N. */
    private static final Twins.Calls LAST = made -> {
        for (int modulus : Made.INSIDE) {
            made.add(1, modulus - 1, modulus);
        }
    };

    /** R is 0 at the greatest N. */
    private static final Twins.Calls FIRST = made -> Made.putModuli(made, Made.INSIDE, 6);

    public static void main(String[] args) {
        answerFromANumberOn();
        answerByIndex();
        answerArguments();
        answerOfNone();
        answerAtTheGreatestN();
        nearestToANumber();
        nearestOfTwoThatAreAsNear();
        nearestIsNotBelowZero();
        nearestArguments();
        nearestOfNone();
        nearestAtTheGreatestN();
        betweenBothToo();
        betweenTurnedRound();
        betweenArguments();
        betweenOfNone();
        betweenAtTheGreatestN();
        missesNoneToAll();
        missesOfThoseThatAreOn();
        missesArguments();
        missesOfGreatNumbers();
        CHECK.end();
    }

    // ---- promise 18

    private static void answers(long due, Twins.Calls before, long from, int index) {
        TWINS.looks("answer: " + from + " " + index, due, before, made -> made.answer(from, index));
    }

    private static void answerFromANumberOn() {
        answers(3, TENS, 0, 0);
        answers(3, TENS, 2, 0);
        answers(3, TENS, 3, 0);
        answers(13, TENS, 4, 0);
        answers(13, TENS, 12, 0);
        answers(13, TENS, 13, 0);
        answers(23, TENS, 14, 0);
        answers(GREATEST + 3, TENS, GREATEST, 0);
        answers(GREATEST - 7, TENS, GREATEST - 7, 0);
        answers(GREATEST + 3, TENS, GREATEST - 6, 0);
        answers(0, EMPTY, 0, 0);
        answers(1, EMPTY, 1, 0);
        answers(GREATEST, EMPTY, GREATEST, 0);
        answers(GREATEST, made -> Made.put(made, 1, 0, 10), GREATEST, 0);
        answers(GREATEST + 1, made -> Made.put(made, 1, 1, 10), GREATEST, 0);
        answers(GREATEST + 9, made -> Made.put(made, 1, 9, 10), GREATEST, 0);
    }

    private static void answerByIndex() {
        for (int index = 0; index <= 99; index++) {
            CHECK.due("answer: index " + index, Made.with(1, 3, 10).answer(4, index), 13 + 10 * index);
        }
        answers(3 + 980, TENS, 0, 98);
        answers(3 + 990, TENS, 0, 99);
        answers(99, EMPTY, 0, 99);
        answers(GREATEST + 99, EMPTY, GREATEST, 99);
    }

    private static void answerArguments() {
        for (Twins.Calls state : new Twins.Calls[] {EMPTY, TENS, APART, FIRST}) {
            for (long wrong : WRONG) {
                TWINS.badArgument("answer: from " + wrong, state, made -> made.answer(wrong, 0));
                TWINS.badArgument("answer: from " + wrong + " 99", state, made -> made.answer(wrong, 99));
            }
            for (int wrong : new int[] {Integer.MIN_VALUE, -1, 100, 101, Integer.MAX_VALUE}) {
                TWINS.badArgument("answer: index " + wrong, state, made -> made.answer(0, wrong));
                TWINS.badArgument("answer: greatest, index " + wrong, state, made -> made.answer(GREATEST, wrong));
            }
        }
    }

    /** "NONE if there is none" */
    private static void answerOfNone() {
        for (long from : new long[] {0, 1, GREATEST}) {
            answers(-1, APART, from, 0);
            answers(-1, APART, from, 99);
            answers(-1, VOID, from, 0);
        }
        SharedModuli made = Twins.made(APART);
        made.toggle(0);
        CHECK.due("answer: one of both is off", made.answer(0, 0), 1);
        made.toggle(1);
        CHECK.due("answer: both are off", made.answer(0, 0), 0);
    }

    private static void answerAtTheGreatestN() {
        answers(0, FIRST, 0, 0);
        answers(Made.INSIDE_N, FIRST, 0, 1);
        answers(Made.INSIDE_N, FIRST, 1, 0);
        answers(Made.INSIDE_N, FIRST, Made.INSIDE_N, 0);
        answers(2 * Made.INSIDE_N, FIRST, Made.INSIDE_N + 1, 0);
        answers(2 * Made.INSIDE_N, FIRST, GREATEST, 0);
        answers(101 * Made.INSIDE_N, FIRST, GREATEST, 99);
        answers(Made.INSIDE_N - 1, LAST, 0, 0);
        answers(Made.INSIDE_N - 1, LAST, Made.INSIDE_N - 1, 0);
        answers(2 * Made.INSIDE_N - 1, LAST, Made.INSIDE_N, 0);
        answers(100 * Made.INSIDE_N - 1, LAST, 0, 99);
        answers(101 * Made.INSIDE_N - 1, LAST, GREATEST, 99);
    }

    // ---- promise 19

    private static void nearest(long due, Twins.Calls before, long to) {
        TWINS.looks("nearest: " + to, due, before, made -> made.nearest(to));
    }

    private static void nearestToANumber() {
        nearest(13, TENS, 12);
        nearest(13, TENS, 13);
        nearest(13, TENS, 14);
        nearest(13, TENS, 17);
        nearest(23, TENS, 19);
        nearest(GREATEST + 3, TENS, GREATEST);
        nearest(GREATEST - 7, TENS, GREATEST - 7);
        nearest(GREATEST - 7, TENS, GREATEST - 3);
        nearest(GREATEST, EMPTY, GREATEST);
        nearest(0, EMPTY, 0);
        nearest(7, EMPTY, 7);
    }

    /** "of two that are as near the lesser one" */
    private static void nearestOfTwoThatAreAsNear() {
        nearest(3, TENS, 7);
        nearest(3, TENS, 8);
        nearest(13, TENS, 9);
        nearest(13, TENS, 18);
        nearest(GREATEST - 7, TENS, GREATEST - 2);
        nearest(GREATEST + 3, TENS, GREATEST - 1);
        nearest(0, made -> Made.put(made, 1, 0, 2), 1);
        nearest(2, made -> Made.put(made, 1, 0, 2), 3);
        nearest(0, made -> Made.put(made, 1, 0, 3), 1);
        nearest(3, made -> Made.put(made, 1, 0, 3), 2);
        nearest(GREATEST - 1, made -> Made.put(made, 1, 1, 2), GREATEST);
    }

    private static void nearestIsNotBelowZero() {
        nearest(3, TENS, 0);
        Twins.Calls nines = made -> Made.put(made, 1, 9, 10);
        nearest(9, nines, 0);
        nearest(9, nines, 3);
        nearest(9, nines, 4);
        nearest(9, nines, 5);
        nearest(9, nines, 14);
        nearest(19, nines, 15);
        nearest(998, made -> Made.put(made, 1, 998, 999), 0);
        nearest(0, made -> Made.put(made, 1, 0, 999), 499);
        nearest(999, made -> Made.put(made, 1, 0, 999), 500);
    }

    private static void nearestArguments() {
        for (Twins.Calls state : new Twins.Calls[] {EMPTY, TENS, APART, FIRST}) {
            for (long wrong : WRONG) {
                TWINS.badArgument("nearest: " + wrong, state, made -> made.nearest(wrong));
            }
        }
    }

    private static void nearestOfNone() {
        for (long to : new long[] {0, 1, GREATEST}) {
            nearest(-1, APART, to);
            nearest(-1, VOID, to);
        }
    }

    private static void nearestAtTheGreatestN() {
        long half = Made.INSIDE_N / 2;
        nearest(0, FIRST, 0);
        nearest(0, FIRST, half - 1);
        nearest(0, FIRST, half);
        nearest(Made.INSIDE_N, FIRST, half + 1);
        nearest(Made.INSIDE_N, FIRST, GREATEST);
        nearest(Made.INSIDE_N - 1, LAST, 0);
        nearest(Made.INSIDE_N - 1, LAST, half);
        nearest(Made.INSIDE_N - 1, LAST, GREATEST);
    }

    // ---- promise 20

    private static void between(long due, Twins.Calls before, long from, long to) {
        TWINS.looks("between: " + from + " " + to, due, before, made -> made.between(from, to));
    }

    /** "from the one to the other, both too" */
    private static void betweenBothToo() {
        between(2, TENS, 3, 13);
        between(1, TENS, 4, 13);
        between(1, TENS, 3, 12);
        between(0, TENS, 4, 12);
        between(1, TENS, 3, 3);
        between(0, TENS, 2, 2);
        between(0, TENS, 4, 4);
        between(0, TENS, 0, 0);
        between(0, TENS, 0, 2);
        between(1, TENS, 0, 3);
        between(1, EMPTY, 0, 0);
        between(2, EMPTY, 0, 1);
        between(1, EMPTY, GREATEST, GREATEST);
        between(GREATEST + 1, EMPTY, 0, GREATEST);
        between(GREATEST, EMPTY, 1, GREATEST);
        between(GREATEST, EMPTY, 0, GREATEST - 1);
        between(GREATEST / 10, TENS, 0, GREATEST);
        between(GREATEST / 10 + 1, made -> Made.put(made, 1, 0, 10), 0, GREATEST);
        between(GREATEST / 10, made -> Made.put(made, 1, 0, 10), 1, GREATEST);
        between(GREATEST / 10, made -> Made.put(made, 1, 0, 10), 0, GREATEST - 1);
        between(1, made -> Made.put(made, 1, 0, 10), GREATEST, GREATEST);
    }

    /** "0 if to is less than from" */
    private static void betweenTurnedRound() {
        between(0, TENS, 13, 3);
        between(0, TENS, 4, 3);
        between(0, TENS, 3, 2);
        between(0, EMPTY, 1, 0);
        between(0, EMPTY, GREATEST, 0);
        between(0, EMPTY, GREATEST, GREATEST - 1);
        between(0, TENS, GREATEST, 0);
    }

    private static void betweenArguments() {
        for (Twins.Calls state : new Twins.Calls[] {EMPTY, TENS, APART, FIRST}) {
            for (long wrong : WRONG) {
                TWINS.badArgument("between: " + wrong + " 0", state, made -> made.between(wrong, 0));
                TWINS.badArgument("between: 0 " + wrong, state, made -> made.between(0, wrong));
                TWINS.badArgument("between: " + wrong + " greatest", state, made -> made.between(wrong, GREATEST));
                TWINS.badArgument("between: greatest " + wrong, state, made -> made.between(GREATEST, wrong));
                TWINS.badArgument("between: both " + wrong, state, made -> made.between(wrong, wrong));
            }
        }
    }

    private static void betweenOfNone() {
        between(0, APART, 0, GREATEST);
        between(0, VOID, 0, GREATEST);
        between(0, APART, 0, 0);
        between(0, APART, 1, 0);
    }

    private static void betweenAtTheGreatestN() {
        between(2, FIRST, 0, GREATEST);
        between(2, FIRST, 0, Made.INSIDE_N);
        between(1, FIRST, 0, Made.INSIDE_N - 1);
        between(1, FIRST, 1, Made.INSIDE_N);
        between(0, FIRST, 1, Made.INSIDE_N - 1);
        between(0, FIRST, Made.INSIDE_N + 1, GREATEST);
        between(1, LAST, 0, GREATEST);
        between(1, LAST, Made.INSIDE_N - 1, Made.INSIDE_N - 1);
        between(0, LAST, 0, Made.INSIDE_N - 2);
        between(0, LAST, Made.INSIDE_N, GREATEST);
    }

    // ---- promise 21

    private static void misses(long due, Twins.Calls before, long x) {
        TWINS.looks("misses: " + x, due, before, made -> made.misses(x));
    }

    private static void missesNoneToAll() {
        misses(0, EMPTY, 0);
        misses(0, EMPTY, GREATEST);
        Twins.Calls tiers = made -> Made.put(made, 1, 0, 2, 1, 0, 4, 1, 0, 8, 1, 0, 16, 1, 0, 32, 1, 0, 64, 1, 0, 128,
            1, 0, 256, 1, 0, 512, 3, 0, 512);
        misses(10, tiers, 1);
        for (int power = 0; power <= 9; power++) {
            misses(power == 9 ? 0 : 10 - power, tiers, 1L << power);
        }
        misses(0, tiers, 0);
        misses(0, tiers, GREATEST);
        misses(10, tiers, GREATEST - 1);
        misses(9, tiers, GREATEST - 2);
        misses(1, VOID, 0);
        misses(1, VOID, GREATEST);
        misses(1, APART, 0);
        misses(1, APART, 1);
    }

    private static void missesOfThoseThatAreOn() {
        SharedModuli made = Made.with(1, 1, 2, 1, 1, 3, 2, 1, 2);
        CHECK.due("misses: all three", made.misses(0), 3);
        made.toggle(0);
        CHECK.due("misses: two", made.misses(0), 2);
        made.toggle(2);
        CHECK.due("misses: one", made.misses(0), 1);
        made.toggle(1);
        CHECK.due("misses: none that is on", made.misses(0), 0);
        made.toggle(2);
        CHECK.due("misses: the void one", made.misses(0), 1);
    }

    private static void missesArguments() {
        for (Twins.Calls state : new Twins.Calls[] {EMPTY, TENS, APART, FIRST}) {
            for (long wrong : WRONG) {
                TWINS.badArgument("misses: " + wrong, state, made -> made.misses(wrong));
            }
        }
    }

    private static void missesOfGreatNumbers() {
        misses(0, FIRST, 0);
        misses(6, FIRST, 1);
        misses(0, FIRST, Made.INSIDE_N);
        misses(6, FIRST, Made.INSIDE_N - 1);
        misses(0, LAST, Made.INSIDE_N - 1);
        misses(1, FIRST, Made.INSIDE_N_OF_FIVE);
        misses(0, made -> Made.put(made, 999, 7, 998), 7);
        misses(0, made -> Made.put(made, 999, 7, 998), 998L * 1000000000 + 7);
        misses(1, made -> Made.put(made, 999, 7, 998), 998L * 1000000000 + 8);
    }
}
