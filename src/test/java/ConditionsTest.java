/** Promises 1 to 7: a new object, add, remove, toggle, bare, thin, agree. */
public final class ConditionsTest {
    private static final Check CHECK = new Check("ConditionsTest");

    /** Five of them come to 921374363638847, which leaves room for a factor of 1 alone. */
    private static final int[] GREAT = {997, 991, 983, 977, 971};

    public static void main(String[] args) {
        newObject();
        add();
        addRefusedByN();
        remove();
        toggle();
        bare();
        thin();
        agree();
        CHECK.end();
    }

    private static SharedModuli great() {
        SharedModuli made = new SharedModuli();
        for (int modulus : GREAT) {
            made.add(1, 0, modulus);
        }
        return made;
    }

    private static void newObject() {
        SharedModuli made = new SharedModuli();
        for (int what = 0; what <= 6; what++) {
            CHECK.due("new: count " + what, made.count(what), what == 4 ? 1 : 0);
        }
        CHECK.due("new: the buffer's length", made.clearBuffer(), 0);
        CHECK.due("new: N", made.joined(0), 1);
        CHECK.due("new: R", made.joined(1), 0);
    }

    private static void add() {
        SharedModuli made = new SharedModuli();
        CHECK.badArgument("add: a 0", () -> made.add(0, 0, 1));
        CHECK.badArgument("add: a 1000", () -> made.add(1000, 0, 1));
        CHECK.badArgument("add: b -1", () -> made.add(1, -1, 1));
        CHECK.badArgument("add: b 1000", () -> made.add(1, 1000, 1));
        CHECK.badArgument("add: m 0", () -> made.add(1, 0, 0));
        CHECK.badArgument("add: m 1000", () -> made.add(1, 0, 1000));
        CHECK.badArgument("add: m least", () -> made.add(1, 0, Integer.MIN_VALUE));
        CHECK.due("add: nothing saved by a refused call", made.count(6), 0);
        for (int k = 0; k < 10; k++) {
            CHECK.due("add: number", made.add(999, 999, 999), k);
            CHECK.due("add: it is on", made.condition(k, 3), 1);
        }
        CHECK.badState("add: an eleventh", () -> made.add(1, 0, 1));
        CHECK.badArgument("add: an eleventh out of range", () -> made.add(0, 0, 1));
        CHECK.due("add: 10 conditions", made.count(0), 10);
        CHECK.due("add: undoable", made.undo(), 5);
        CHECK.due("add: undone", made.count(0), 9);
    }

    private static void addRefusedByN() {
        SharedModuli made = great();
        CHECK.due("add: N is asked", made.joined(0), 921374363638847L);
        CHECK.badState("add: N too great", () -> made.add(1, 0, 2));
        CHECK.badState("add: N too great, though it does not agree", () -> made.add(1, 3, 994));
        CHECK.due("add: nothing saved by a refused call", made.count(6), 5);
        CHECK.due("add: a void one asks for nothing", made.add(2, 1, 2), 5);
        CHECK.due("add: a contradicting one of the same modulus", made.add(1, 5, 997), 6);
        CHECK.due("add: bare modulus 1", made.add(998, 0, 998), 7);
        CHECK.badState("add: also if they are not possible together", () -> made.add(1, 1, 2));
        made.toggle(0);
        CHECK.badState("add: the other condition asks for 997 too", () -> made.add(1, 1, 2));
        made.toggle(6);
        CHECK.due("add: what is off does not count", made.add(1, 1, 2), 8);
        SharedModuli exact = Made.with(1, 0, 512, 1, 0, 625, 1, 0, 125, 2, 0, 32);
        CHECK.due("N 320000", exact.joined(0), 320000);
    }

    private static void remove() {
        SharedModuli made = Made.with(1, 0, 2, 1, 0, 3, 1, 0, 5);
        CHECK.badIndex("remove: -1", () -> made.remove(-1));
        CHECK.badIndex("remove: 3", () -> made.remove(3));
        made.toggle(2);
        CHECK.due("remove: left", made.remove(1), 2);
        CHECK.due("remove: the next moves down", made.condition(1, 2), 5);
        CHECK.due("remove: with its switch", made.condition(1, 3), 0);
        CHECK.due("remove: those before it stay", made.condition(0, 2), 2);
        CHECK.due("remove: N", made.joined(0), 2);
        CHECK.badIndex("remove: 2 then", () -> made.remove(2));
        CHECK.due("remove: undoable", made.undo(), 4);
        CHECK.due("remove: undone", made.condition(1, 2), 3);
        CHECK.due("remove: undone, off", made.condition(2, 3), 0);
        CHECK.due("remove: first", made.remove(0), 2);
        CHECK.due("remove: N is of those left", made.joined(0), 3);
        CHECK.due("remove: last", made.remove(1), 1);
        CHECK.due("remove: only", made.remove(0), 0);
        CHECK.badIndex("remove: none", () -> made.remove(0));
    }

    private static void toggle() {
        SharedModuli made = great();
        CHECK.badIndex("toggle: -1", () -> made.toggle(-1));
        CHECK.badIndex("toggle: 5", () -> made.toggle(5));
        CHECK.due("toggle: off", made.toggle(4), 0);
        CHECK.due("toggle: N without it", made.joined(0), 921374363638847L / 971);
        CHECK.due("toggle: still there", made.count(0), 5);
        made.add(1, 0, 2);
        CHECK.badState("toggle: N too great", () -> made.toggle(4));
        CHECK.due("toggle: a refused call leaves it off", made.condition(4, 3), 0);
        CHECK.due("toggle: a refused call saves nothing", made.count(6), 6);
        CHECK.due("toggle: the other off", made.toggle(5), 0);
        CHECK.due("toggle: on", made.toggle(4), 1);
        CHECK.due("toggle: N with it", made.joined(0), 921374363638847L);
        CHECK.due("toggle: undoable", made.undo(), 5);
        CHECK.due("toggle: undone", made.condition(4, 3), 0);
        SharedModuli voids = great();
        voids.add(2, 1, 2);
        CHECK.due("toggle: a void one off", voids.toggle(5), 0);
        CHECK.due("toggle: a void one on, at a great N", voids.toggle(5), 1);
    }

    private static void bare() {
        SharedModuli made = Made.with(6, 3, 9, 2, 1, 4, 7, 21, 21, 999, 998, 997, 5, 0, 5);
        CHECK.badIndex("bare: -1", () -> made.bare(-1));
        CHECK.badIndex("bare: 5", () -> made.bare(5));
        CHECK.badState("bare: void", () -> made.bare(1));
        CHECK.due("bare: void, nothing saved", made.count(6), 5);
        made.toggle(0);
        CHECK.due("bare: 6x=3 (9) is x=2 (3)", made.bare(0), 3);
        CHECK.due("bare: factor", made.condition(0, 0), 1);
        CHECK.due("bare: remainder", made.condition(0, 1), 2);
        CHECK.due("bare: modulus", made.condition(0, 2), 3);
        CHECK.due("bare: stays off", made.condition(0, 3), 0);
        CHECK.due("bare: undoable", made.undo(), 5);
        CHECK.due("bare: undone", made.condition(0, 0), 6);
        CHECK.due("bare: 7x=21 (21) is x=0 (3)", made.bare(2), 3);
        CHECK.due("bare: its remainder", made.condition(2, 1), 0);
        CHECK.due("bare: 999x=998 (997) is 2x=1", made.bare(3), 997);
        CHECK.due("bare: its remainder", made.condition(3, 1), 499);
        CHECK.due("bare: all numbers", made.bare(4), 1);
        CHECK.due("bare: a bare one again", made.bare(4), 1);
        CHECK.due("bare: saves also if nothing changes", made.count(6), 6);
    }

    private static void thin() {
        SharedModuli none = new SharedModuli();
        CHECK.due("thin: none", none.thin(), 0);
        CHECK.due("thin: saves also if nothing changes", none.count(6), 1);
        SharedModuli made = Made.with(1, 5, 6, 1, 1, 2, 1, 2, 3, 1, 0, 1, 1, 5, 12);
        made.toggle(4);
        CHECK.due("thin: the first is told by both others, and then these by none", made.thin(), 2);
        CHECK.due("thin: 5 (6)", made.condition(0, 3), 0);
        CHECK.due("thin: 1 (2)", made.condition(1, 3), 1);
        CHECK.due("thin: 2 (3)", made.condition(2, 3), 1);
        CHECK.due("thin: all numbers", made.condition(3, 3), 0);
        CHECK.due("thin: what is off stays off", made.condition(4, 3), 0);
        CHECK.due("thin: N is as before", made.joined(0), 6);
        made.undo();
        CHECK.due("thin: undone", made.count(1), 4);
        SharedModuli twins = Made.with(1, 1, 4, 1, 1, 4);
        CHECK.due("thin: of twins one", twins.thin(), 1);
        CHECK.due("thin: the first", twins.condition(0, 3), 0);
        SharedModuli apart = Made.with(1, 0, 2, 1, 1, 2);
        CHECK.badState("thin: not possible together", () -> apart.thin());
        CHECK.due("thin: nothing saved", apart.count(6), 2);
        SharedModuli voids = Made.with(2, 1, 2);
        CHECK.badState("thin: a void one is on", () -> voids.thin());
        voids.toggle(0);
        CHECK.due("thin: a void one is off", voids.thin(), 0);
    }

    private static void agree() {
        SharedModuli made = Made.with(1, 0, 2, 1, 1, 2, 1, 1, 4, 2, 1, 2, 1, 0, 3);
        made.toggle(1);
        made.toggle(4);
        CHECK.due("agree: 1 (2), 1 (4) and 0 (3)", made.agree(), 3);
        CHECK.due("agree: 0 (2) is off", made.condition(0, 3), 0);
        CHECK.due("agree: 1 (2) is on", made.condition(1, 3), 1);
        CHECK.due("agree: 1 (4) is on", made.condition(2, 3), 1);
        CHECK.due("agree: the void one is off", made.condition(3, 3), 0);
        CHECK.due("agree: 0 (3) is on", made.condition(4, 3), 1);
        CHECK.due("agree: undoable", made.undo(), 5);
        CHECK.due("agree: undone", made.condition(1, 3), 0);
        CHECK.due("agree: nothing else is undone", made.condition(4, 3), 0);
        SharedModuli wide = great();
        wide.toggle(0);
        wide.add(1, 0, 2);
        CHECK.badState("agree: N too great", () -> wide.agree());
        CHECK.due("agree: refused, so as before", wide.condition(0, 3), 0);
        SharedModuli voids = Made.with(2, 1, 2);
        CHECK.due("agree: nothing is possible", voids.agree(), 0);
        CHECK.due("agree: so it is off", voids.condition(0, 3), 0);
        CHECK.due("agree: no conditions", new SharedModuli().agree(), 0);
    }
}
