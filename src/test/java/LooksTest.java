/** Promises 13 to 17: condition, agrees, joined, count, prime. */
public final class LooksTest {
    private static final Check CHECK = new Check("LooksTest");

    public static void main(String[] args) {
        condition();
        conditionAmongOthers();
        conditionTold();
        agrees();
        joined();
        count();
        prime();
        primeContradictions();
        primeOfWrongArguments();
        CHECK.end();
    }

    private static void properties(SharedModuli of, int condition, int... due) {
        for (int what = 0; what < due.length; what++) {
            CHECK.due("condition " + condition + ", " + what, of.condition(condition, what), due[what]);
        }
    }

    private static void condition() {
        SharedModuli made = Made.with(6, 3, 9, 4, 2, 8, 1, 999, 7, 10, 5, 25, 3, 3, 1);
        properties(made, 0, 6, 3, 9, 1, 0, 3, 2);
        properties(made, 1, 4, 2, 8, 1, 1, -1, -1);
        properties(made, 2, 1, 999, 7, 1, 0, 7, 5);
        properties(made, 3, 10, 5, 25, 1, 0, 5, 3);
        properties(made, 4, 3, 3, 1, 1, 0, 1, 0);
        CHECK.badIndex("condition: -1", () -> made.condition(-1, 0));
        CHECK.badIndex("condition: 5", () -> made.condition(5, 0));
        CHECK.badArgument("condition: what -1", () -> made.condition(0, -1));
        CHECK.badArgument("condition: what 9", () -> made.condition(0, 9));
        CHECK.badIndex("condition: both wrong", () -> made.condition(5, 9));
        CHECK.due("condition: nothing saved", made.count(6), 5);
    }

    private static void conditionAmongOthers() {
        SharedModuli made = Made.with(1, 0, 2, 1, 1, 2, 1, 1, 4, 2, 1, 2, 1, 1, 3);
        CHECK.due("condition: 0 (2) against 1 (2), 1 (4) and the void one", made.condition(0, 7), 3);
        CHECK.due("condition: 1 (2) against 0 (2) and the void one", made.condition(1, 7), 2);
        CHECK.due("condition: the void one against all others", made.condition(3, 7), 4);
        made.toggle(1);
        CHECK.due("condition: what is off is not against", made.condition(0, 7), 2);
        CHECK.due("condition: asked of one that is off", made.condition(1, 7), 2);
        made.toggle(3);
        CHECK.due("condition: asked of a void one that is off", made.condition(3, 7), 3);
    }

    private static void conditionTold() {
        SharedModuli made = Made.with(1, 5, 6, 1, 1, 2, 1, 2, 3, 1, 3, 5);
        CHECK.due("told: 5 (6) by 1 (2) and 2 (3)", made.condition(0, 8), 1);
        CHECK.due("told: 1 (2) by 5 (6)", made.condition(1, 8), 1);
        CHECK.due("told: 3 (5) by none", made.condition(3, 8), 0);
        made.toggle(0);
        CHECK.due("told: not if it is off", made.condition(0, 8), 0);
        CHECK.due("told: 1 (2) not by what is off", made.condition(1, 8), 0);
        made.toggle(0);
        made.add(1, 0, 3);
        CHECK.due("told: the others are not possible together", made.condition(1, 8), 0);
        CHECK.due("told: nor those against which it is", made.condition(4, 8), 0);
        SharedModuli alone = Made.with(4, 8, 4);
        CHECK.due("told: all numbers, by none", alone.condition(0, 8), 1);
        SharedModuli voids = Made.with(2, 1, 2);
        CHECK.due("told: a void one is not", voids.condition(0, 8), 0);
        SharedModuli part = Made.with(1, 1, 4, 1, 0, 2, 1, 1, 8);
        CHECK.due("told: 0 (2) is contradicted, not told", part.condition(1, 8), 0);
        part.toggle(1);
        CHECK.due("told: 1 (8) not by 1 (4)", part.condition(2, 8), 0);
        CHECK.due("told: 1 (4) by 1 (8)", part.condition(0, 8), 1);
    }

    private static void agrees() {
        SharedModuli made = Made.with(1, 2, 6, 1, 8, 15, 1, 0, 4, 2, 1, 4, 1, 1, 10);
        CHECK.due("agrees: 2 (6), 8 (15) by 3", made.agrees(0, 1), 1);
        CHECK.due("agrees: 2 (6), 0 (4) by 2", made.agrees(0, 2), 1);
        CHECK.due("agrees: 8 (15), 0 (4) by 1", made.agrees(2, 1), 1);
        CHECK.due("agrees: 2 (6), 1 (10) by 2", made.agrees(0, 4), 0);
        CHECK.due("agrees: 8 (15), 1 (10) by 5", made.agrees(4, 1), 0);
        CHECK.due("agrees: with itself", made.agrees(4, 4), 1);
        CHECK.due("agrees: a void one with itself", made.agrees(3, 3), 0);
        CHECK.due("agrees: a void one", made.agrees(1, 3), 0);
        made.toggle(0);
        CHECK.due("agrees: off or on", made.agrees(0, 1), 1);
        CHECK.badIndex("agrees: -1", () -> made.agrees(-1, 0));
        CHECK.badIndex("agrees: other -1", () -> made.agrees(0, -1));
        CHECK.badIndex("agrees: 5", () -> made.agrees(5, 0));
        CHECK.badIndex("agrees: other 5", () -> made.agrees(0, 5));
    }

    private static void joined() {
        SharedModuli made = Made.with(1, 2, 6, 1, 8, 15);
        CHECK.due("joined: N", made.joined(0), 30);
        CHECK.due("joined: R", made.joined(1), 8);
        made.add(1, 1, 7);
        CHECK.due("joined: N with 7", made.joined(0), 210);
        CHECK.due("joined: R with 7", made.joined(1), 8);
        made.add(3, 1, 11);
        CHECK.due("joined: N with 11", made.joined(0), 2310);
        CHECK.due("joined: R with 3x=1 (11), x=4", made.joined(1), 1478);
        made.add(1, 1, 2);
        CHECK.due("joined: N, not possible", made.joined(0), -1);
        CHECK.due("joined: R, not possible", made.joined(1), -1);
        made.toggle(4);
        CHECK.due("joined: what is off does not count", made.joined(0), 2310);
        CHECK.badArgument("joined: -1", () -> made.joined(-1));
        CHECK.badArgument("joined: 2", () -> made.joined(2));
        SharedModuli voids = Made.with(2, 1, 2);
        CHECK.due("joined: void", voids.joined(0), -1);
    }

    private static void count() {
        SharedModuli made = Made.with(1, 0, 2, 1, 1, 2, 2, 1, 2, 1, 0, 1, 2, 1, 4);
        made.toggle(4);
        int[] due = {5, 4, 2, 4, 0, 0, 6};
        for (int what = 0; what < due.length; what++) {
            CHECK.due("count: " + what, made.count(what), due[what]);
        }
        made.toggle(1);
        made.toggle(2);
        int[] then = {5, 2, 2, 0, 1, 1, 6};
        for (int what = 0; what < then.length; what++) {
            CHECK.due("count then: " + what, made.count(what), then[what]);
        }
        CHECK.badArgument("count: -1", () -> made.count(-1));
        CHECK.badArgument("count: 7", () -> made.count(7));
        CHECK.due("count: the first is void", Made.with(2, 1, 2, 1, 0, 2).count(2), 1);
        CHECK.due("count: told ones", Made.with(1, 5, 6, 1, 1, 2, 1, 3, 5).count(5), 1);
        CHECK.due("count: told ones, each by the other", Made.with(1, 5, 6, 7, 5, 6).count(5), 2);
        SharedModuli voids = Made.with(2, 1, 2);
        CHECK.due("count: a void one alone is no pair", voids.count(3), 0);
        CHECK.due("count: nor possible", voids.count(4), 0);
    }

    private static void asks(SharedModuli of, int p, int... due) {
        for (int what = 0; what < due.length; what++) {
            CHECK.due("prime " + p + ", " + what, of.prime(p, what), due[what]);
        }
    }

    private static void prime() {
        SharedModuli made = Made.with(1, 5, 12, 1, 7, 8, 2, 6, 48, 1, 15, 24, 2, 1, 64, 1, 30, 31);
        asks(made, 2, 1, 8, 7, 2);
        asks(new SharedModuli(), 2, -1, 1, 0, 0);
        SharedModuli one = Made.with(1, 5, 12, 1, 7, 8, 1, 15, 24, 2, 1, 64, 1, 30, 31);
        asks(one, 2, 1, 8, 7, 1);
        asks(one, 3, 0, 3, 2, 1);
        asks(one, 31, 4, 31, 30, 0);
        asks(one, 5, -1, 1, 0, 0);
        asks(one, 29, -1, 1, 0, 0);
        one.toggle(1);
        asks(one, 2, 2, 8, 7, 1);
        one.toggle(2);
        asks(one, 2, 0, 4, 1, 0);
        one.toggle(0);
        asks(one, 2, -1, 1, 0, 0);
        asks(Made.with(1, 600, 512), 2, 0, 512, 88, 0);
        asks(Made.with(1, 700, 729), 3, 0, 729, 700, 0);
    }

    private static void primeContradictions() {
        SharedModuli made = Made.with(1, 0, 2, 1, 1, 4, 1, 3, 4, 1, 5, 16, 1, 13, 32, 2, 1, 2, 1, 2, 3);
        asks(made, 2, 4, 32, 13, 3);
        asks(made, 3, 6, 3, 2, 0);
        made.toggle(2);
        asks(made, 2, 4, 32, 13, 2);
    }

    private static void primeOfWrongArguments() {
        SharedModuli made = Made.with(1, 0, 30);
        for (int p : new int[] {Integer.MIN_VALUE, -2, 0, 1, 4, 6, 8, 9, 10, 12, 14, 15, 16, 18, 20, 21, 22, 24, 25, 26,
            27, 28, 30, 32, 37, Integer.MAX_VALUE}) {
            CHECK.badArgument("prime: " + p, () -> made.prime(p, 0));
        }
        for (int p : new int[] {7, 11, 13, 17, 19, 23, 29, 31}) {
            CHECK.due("prime: " + p, made.prime(p, 1), 1);
        }
        CHECK.badArgument("prime: what -1", () -> made.prime(2, -1));
        CHECK.badArgument("prime: what 4", () -> made.prime(2, 4));
    }
}
