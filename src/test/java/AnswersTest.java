/** Promises 18 to 21: answer, nearest, between, misses. */
public final class AnswersTest {
    private static final Check CHECK = new Check("AnswersTest");
    private static final long GREATEST = 1000000000000000L;

    public static void main(String[] args) {
        answer();
        nearest();
        between();
        misses();
        tryAll();
        atAGreatN();
        CHECK.end();
    }

    private static void answer() {
        SharedModuli made = Made.with(1, 2, 6, 1, 8, 15);
        CHECK.due("answer: from 0", made.answer(0, 0), 8);
        CHECK.due("answer: from 8", made.answer(8, 0), 8);
        CHECK.due("answer: from 9", made.answer(9, 0), 38);
        CHECK.due("answer: the hundredth", made.answer(0, 99), 8 + 99 * 30);
        CHECK.due("answer: from the greatest", made.answer(GREATEST, 0), GREATEST + 28);
        CHECK.due("answer: the hundredth from there", made.answer(GREATEST, 99), GREATEST + 28 + 99 * 30);
        CHECK.badArgument("answer: from -1", () -> made.answer(-1, 0));
        CHECK.badArgument("answer: from too great", () -> made.answer(GREATEST + 1, 0));
        CHECK.badArgument("answer: index -1", () -> made.answer(0, -1));
        CHECK.badArgument("answer: index 100", () -> made.answer(0, 100));
        made.add(1, 1, 2);
        CHECK.due("answer: none", made.answer(0, 0), -1);
        CHECK.badArgument("answer: none, and out of range", () -> made.answer(0, 100));
        CHECK.due("answer: all numbers", new SharedModuli().answer(77, 5), 82);
    }

    private static void nearest() {
        SharedModuli made = Made.with(1, 2, 6, 1, 8, 15);
        CHECK.due("nearest: to 0, none is below 0", made.nearest(0), 8);
        CHECK.due("nearest: to 8", made.nearest(8), 8);
        CHECK.due("nearest: to 22", made.nearest(22), 8);
        CHECK.due("nearest: to 23, both as near", made.nearest(23), 8);
        CHECK.due("nearest: to 24", made.nearest(24), 38);
        CHECK.due("nearest: to the greatest", made.nearest(GREATEST), GREATEST - 2);
        CHECK.badArgument("nearest: -1", () -> made.nearest(-1));
        CHECK.badArgument("nearest: too great", () -> made.nearest(GREATEST + 1));
        made.add(2, 1, 2);
        CHECK.due("nearest: none", made.nearest(8), -1);
        SharedModuli high = Made.with(1, 9, 10);
        CHECK.due("nearest: to 3, -1 is no answer", high.nearest(3), 9);
        CHECK.due("nearest: to 3, 0 is an answer", Made.with(1, 0, 10).nearest(3), 0);
        CHECK.due("nearest: to 5, 0 and 10 are as near", Made.with(1, 0, 10).nearest(5), 0);
        CHECK.due("nearest: to 6", Made.with(1, 0, 10).nearest(6), 10);
        CHECK.due("nearest: above it", Made.with(1, 1, 10).nearest(GREATEST), GREATEST + 1);
    }

    private static void between() {
        SharedModuli made = Made.with(1, 2, 6, 1, 8, 15);
        CHECK.due("between: 0, 7", made.between(0, 7), 0);
        CHECK.due("between: 0, 8", made.between(0, 8), 1);
        CHECK.due("between: 8, 8", made.between(8, 8), 1);
        CHECK.due("between: 9, 37", made.between(9, 37), 0);
        CHECK.due("between: 8, 38", made.between(8, 38), 2);
        CHECK.due("between: 38, 8", made.between(38, 8), 0);
        CHECK.due("between: all", made.between(0, GREATEST), 33333333333334L);
        CHECK.due("between: all numbers", new SharedModuli().between(0, GREATEST), GREATEST + 1);
        CHECK.badArgument("between: -1, 0", () -> made.between(-1, 0));
        CHECK.badArgument("between: 0, -1", () -> made.between(0, -1));
        CHECK.badArgument("between: from too great", () -> made.between(GREATEST + 1, 0));
        CHECK.badArgument("between: to too great", () -> made.between(0, GREATEST + 1));
        made.add(1, 1, 2);
        CHECK.due("between: none", made.between(0, GREATEST), 0);
    }

    private static void misses() {
        SharedModuli made = Made.with(1, 2, 6, 3, 1, 10, 2, 1, 2, 1, 8, 15);
        CHECK.due("misses: 0 misses all", made.misses(0), 4);
        CHECK.due("misses: 8 misses 3x=1 (10) and the void one", made.misses(8), 2);
        CHECK.due("misses: 7", made.misses(7), 3);
        made.toggle(2);
        CHECK.due("misses: what is off is not missed", made.misses(8), 1);
        CHECK.due("misses: the greatest", Made.with(999, 0, 125).misses(GREATEST), 0);
        CHECK.due("misses: none", new SharedModuli().misses(5), 0);
        CHECK.badArgument("misses: -1", () -> made.misses(-1));
        CHECK.badArgument("misses: too great", () -> made.misses(GREATEST + 1));
    }

    private static boolean meets(int[] parts, int x) {
        boolean all = true;
        for (int k = 0; k + 2 < parts.length; k += 3) {
            all &= (parts[k] * x - parts[k + 1]) % parts[k + 2] == 0;
        }
        return all;
    }

    /** Every number is tried by the conditions' own words, and told by answer() in turn. */
    private static void tryAll() {
        int[][] lists = {{1, 2, 6, 1, 8, 15}, {4, 2, 6, 9, 6, 21}, {5, 3, 8, 6, 4, 10, 7, 7, 49}, {1, 5, 1}};
        for (int[] parts : lists) {
            SharedModuli made = Made.with(parts);
            long next = made.answer(0, 0);
            int met = 0;
            for (int x = 0; x < 3000; x++) {
                if (meets(parts, x)) {
                    CHECK.due("all: the next answer", next, x);
                    next = met < 100 ? made.answer(x + 1, 0) : next + made.joined(0);
                    met++;
                }
            }
            CHECK.due("all: how many", made.between(0, 2999), met);
        }
    }

    private static void atAGreatN() {
        SharedModuli made = Made.with(1, 996, 997, 1, 990, 991, 1, 982, 983, 1, 976, 977, 1, 970, 971);
        long n = 921374363638847L;
        CHECK.due("great: R is N less 1", made.joined(1), n - 1);
        CHECK.due("great: the hundredth", made.answer(GREATEST, 99), 101 * n - 1);
        CHECK.due("great: nearest below", made.nearest(GREATEST), n - 1);
        CHECK.due("great: between", made.between(0, GREATEST), 1);
        CHECK.due("great: misses", made.misses(n - 1), 0);
    }
}
