/** Promises 22 to 27: ifAdded, without, most, blame, density, digest. */
public final class WhatWouldBeTest {
    private static final Check CHECK = new Check("WhatWouldBeTest");

    public static void main(String[] args) {
        ifAdded();
        ifAddedRefused();
        ifAddedOfWrongArguments();
        without();
        most();
        blame();
        density();
        digestOfANewObject();
        digestOfAState();
        looksChangeNothing();
        CHECK.end();
    }

    private static void dueIfAdded(SharedModuli to, int a, int b, int m, long... due) {
        for (int what = 0; what < due.length; what++) {
            CHECK.due("ifAdded " + a + "x=" + b + "%" + m + ", " + what, to.ifAdded(a, b, m, what), due[what]);
        }
    }

    private static void ifAdded() {
        SharedModuli made = Made.with(1, 2, 6, 1, 8, 15);
        dueIfAdded(made, 1, 1, 7, 210, 8, 0, 0);
        dueIfAdded(made, 1, 0, 2, 30, 8, 0, 1);
        dueIfAdded(made, 1, 8, 30, 30, 8, 0, 1);
        dueIfAdded(made, 1, 1, 2, -1, -1, 1, 0);
        dueIfAdded(made, 1, 0, 3, -1, -1, 2, 0);
        dueIfAdded(made, 2, 1, 2, -1, -1, 2, 0);
        dueIfAdded(made, 7, 0, 7, 30, 8, 0, 1);
        dueIfAdded(made, 1, 0, 4, 60, 8, 0, 0);
        dueIfAdded(new SharedModuli(), 3, 1, 10, 10, 7, 0, 0);
        dueIfAdded(new SharedModuli(), 2, 1, 4, -1, -1, 0, 0);
        dueIfAdded(new SharedModuli(), 999, 999, 998, 998, 1, 0, 0);
        made.add(1, 1, 2);
        dueIfAdded(made, 1, 1, 2, -1, -1, 1, 0);
        dueIfAdded(made, 1, 0, 1, -1, -1, 0, 0);
        made.toggle(2);
        dueIfAdded(made, 1, 1, 7, 210, 8, 0, 0);
    }

    private static void ifAddedRefused() {
        SharedModuli wide = Made.with(1, 0, 997, 1, 0, 991, 1, 0, 983, 1, 0, 977, 1, 0, 971);
        dueIfAdded(wide, 1, 0, 2, -1, -1, -1, -1);
        dueIfAdded(wide, 2, 0, 2, 921374363638847L, 0, 0, 1);
        dueIfAdded(wide, 2, 1, 2, -1, -1, 5, 0);
        dueIfAdded(wide, 1, 1, 997, -1, -1, 1, 0);
        SharedModuli full = Made.with(1, 0, 1, 1, 0, 1, 1, 0, 1, 1, 0, 1, 1, 0, 1, 1, 0, 1, 1, 0, 1, 1, 0, 1, 1, 0, 1, 1, 0, 1);
        dueIfAdded(full, 1, 0, 1, -1, -1, -1, -1);
        full.toggle(3);
        dueIfAdded(full, 2, 1, 2, -1, -1, -1, -1);
    }

    private static void ifAddedOfWrongArguments() {
        SharedModuli made = new SharedModuli();
        CHECK.badArgument("ifAdded: a 0", () -> made.ifAdded(0, 0, 1, 0));
        CHECK.badArgument("ifAdded: a 1000", () -> made.ifAdded(1000, 0, 1, 0));
        CHECK.badArgument("ifAdded: b -1", () -> made.ifAdded(1, -1, 1, 0));
        CHECK.badArgument("ifAdded: b 1000", () -> made.ifAdded(1, 1000, 1, 0));
        CHECK.badArgument("ifAdded: m 0", () -> made.ifAdded(1, 0, 0, 0));
        CHECK.badArgument("ifAdded: m 1000", () -> made.ifAdded(1, 0, 1000, 0));
        CHECK.badArgument("ifAdded: what -1", () -> made.ifAdded(1, 0, 1, -1));
        CHECK.badArgument("ifAdded: what 4", () -> made.ifAdded(1, 0, 1, 4));
    }

    private static void without() {
        SharedModuli made = Made.with(1, 2, 6, 1, 8, 15, 1, 1, 2);
        CHECK.due("without: N without 1 (2)", made.without(2, 0), 30);
        CHECK.due("without: R without 1 (2)", made.without(2, 1), 8);
        CHECK.due("without: N without 2 (6)", made.without(0, 0), 30);
        CHECK.due("without: R without 2 (6)", made.without(0, 1), 23);
        CHECK.due("without: N without 8 (15)", made.without(1, 0), -1);
        CHECK.due("without: R without 8 (15)", made.without(1, 1), -1);
        made.toggle(2);
        CHECK.due("without: N without what is off", made.without(2, 0), 30);
        CHECK.due("without: what is off stays so", made.without(1, 0), 6);
        CHECK.badIndex("without: -1", () -> made.without(-1, 0));
        CHECK.badIndex("without: 3", () -> made.without(3, 0));
        CHECK.badArgument("without: what -1", () -> made.without(0, -1));
        CHECK.badArgument("without: what 2", () -> made.without(0, 2));
        CHECK.badIndex("without: both wrong", () -> made.without(3, 2));
        SharedModuli alone = Made.with(2, 1, 2);
        CHECK.due("without: N without the only one", alone.without(0, 0), 1);
        CHECK.due("without: R without the only one", alone.without(0, 1), 0);
    }

    private static void most() {
        CHECK.due("most: no conditions", new SharedModuli().most(), 0);
        CHECK.due("most: a void one", Made.with(2, 1, 2).most(), 0);
        SharedModuli made = Made.with(1, 0, 2, 1, 1, 2, 1, 1, 4, 2, 1, 2, 1, 0, 3);
        CHECK.due("most: 1 (2), 1 (4), 0 (3)", made.most(), 0b10110);
        made.toggle(1);
        made.toggle(4);
        CHECK.due("most: on or off", made.most(), 0b10110);
        CHECK.due("most: of several the least mask", Made.with(1, 0, 3, 1, 1, 3, 1, 2, 3).most(), 1);
        CHECK.due("most: two pairs", Made.with(1, 0, 3, 1, 1, 3, 1, 1, 3, 1, 0, 3).most(), 0b0110);
        CHECK.due("most: agreeing in pairs", Made.with(1, 0, 6, 1, 4, 10, 1, 9, 15).most(), 0b111);
        SharedModuli wide = Made.with(1, 0, 997, 1, 0, 991, 1, 0, 983, 1, 0, 977, 1, 0, 971);
        for (int modulus : new int[] {967, 953, 947, 941, 937}) {
            wide.toggle(wide.count(0) - 5);
            wide.add(1, 1, modulus);
        }
        CHECK.due("most: all ten, however great N", wide.most(), 1023);
        CHECK.badState("agree: N too great for these", () -> wide.agree());
    }

    private static void blame() {
        CHECK.due("blame: no conditions", new SharedModuli().blame(), -1);
        CHECK.due("blame: possible", Made.with(1, 2, 6, 1, 8, 15).blame(), -1);
        CHECK.due("blame: of two the lowest", Made.with(1, 0, 3, 1, 0, 2, 1, 1, 2).blame(), 1);
        SharedModuli made = Made.with(1, 1, 4, 1, 3, 8, 1, 0, 2, 1, 1, 2);
        CHECK.due("blame: 0 (2)", made.blame(), 2);
        made.toggle(3);
        CHECK.due("blame: all against all", made.blame(), 0);
        made.add(2, 1, 2);
        CHECK.due("blame: a void one before all", made.blame(), 4);
        made.toggle(4);
        CHECK.due("blame: not if it is off", made.blame(), 0);
        SharedModuli single = Made.with(1, 0, 2, 1, 1, 2);
        single.toggle(0);
        CHECK.due("blame: what is off contradicts none", single.blame(), -1);
        CHECK.due("blame: a void one alone", Made.with(2, 1, 2).blame(), 0);
        CHECK.due("blame: the lowest void one", Made.with(1, 0, 1, 2, 1, 2, 2, 1, 4).blame(), 1);
        CHECK.due("blame: a void one counts itself", Made.with(1, 0, 2, 1, 1, 2, 2, 1, 2).blame(), 2);
    }

    private static void density() {
        CHECK.dueDouble("density: all numbers", new SharedModuli().density(), 1.0);
        CHECK.dueDouble("density: 30", Made.with(1, 2, 6, 1, 8, 15).density(), 1.0 / 30.0);
        CHECK.dueDouble("density: none", Made.with(1, 0, 2, 1, 1, 2).density(), 0.0);
        CHECK.dueDouble("density: void", Made.with(2, 1, 2).density(), 0.0);
        SharedModuli wide = Made.with(1, 0, 997, 1, 0, 991, 1, 0, 983, 1, 0, 977, 1, 0, 971);
        CHECK.dueDouble("density: great", wide.density(), 1.0 / 921374363638847.0);
    }

    private static long hash(long... values) {
        long hash = 2791;
        for (long value : values) {
            hash = 31 * hash + value;
        }
        return hash;
    }

    private static void digestOfANewObject() {
        long one = Double.doubleToLongBits(1.0);
        long due = hash(0, 0, 0, 0, 1, 0, 0, 1, 0,
            -1, 1, 0, 0, -1, 1, 0, 0, -1, 1, 0, 0, -1, 1, 0, 0, -1, 1, 0, 0, -1, 1, 0, 0,
            0, 1, 2, 1000, 500, 10000, 0, 0, 10, 7, 0, 0, 0, -1, one, 0);
        CHECK.due("digest: new", new SharedModuli().digest(), due);
    }

    /** All values are worked out by hand: x=2%6 and 3x=4%10, on, with "x" in the buffer. */
    private static void digestOfAState() {
        SharedModuli made = Made.with(1, 2, 6, 3, 4, 10);
        made.append('x');
        long density = Double.doubleToLongBits(1.0 / 30.0);
        long due = hash(2, 2, 0, 0, 1, 0, 2, 30, 8,
            1, 2, 6, 1, 0, 6, 2, 0, 0, 1, 1, 10, 8,
            3, 4, 10, 1, 0, 10, 8, 0, 0, 1, 1, 6, 2,
            0, 2, 0, 0, 0, 3, 2, 0, 1, 5, 3, 0, -1, 1, 0, 0, -1, 1, 0, 0, -1, 1, 0, 0,
            8, 38, 68, 1028, 488, 334, 2, 2, -1, -1, 2, 0, 3, -1, density, 1, 'x');
        CHECK.due("digest: two conditions", made.digest(), due);
        SharedModuli apart = Made.with(1, 0, 2, 1, 1, 2);
        CHECK.due("digest: not possible", apart.digest(), hash(2, 2, 0, 1, 0, 0, 2, -1, -1,
            1, 0, 2, 1, 0, 2, 0, 1, 0, 1, 0, 2, 1,
            1, 1, 2, 1, 0, 2, 1, 1, 0, 0, 1, 2, 0,
            0, 2, 0, 1, -1, 1, 0, 0, -1, 1, 0, 0, -1, 1, 0, 0, -1, 1, 0, 0, -1, 1, 0, 0,
            -1, -1, -1, -1, -1, 0, 1, 1, -1, -1, 1, 0, 1, 0, 0, 0));
    }

    private static void looksChangeNothing() {
        SharedModuli made = Made.with(1, 2, 6, 3, 4, 10, 2, 1, 2);
        made.toggle(2);
        made.append('x');
        long before = made.digest();
        made.firstError();
        made.ifAdded(1, 1, 7, 1);
        made.without(0, 1);
        made.answer(5, 5);
        made.condition(0, 8);
        made.most();
        CHECK.due("looks: the state is as before", made.digest(), before);
        CHECK.badArgument("looks: a wrong call", () -> made.ifAdded(1, 1, 0, 1));
        CHECK.badState("looks: a refused call", () -> made.bare(2));
        CHECK.badArgument("looks: a text that tells nothing", () -> made.read());
        CHECK.due("looks: the state is as before too", made.digest(), before);
    }
}
