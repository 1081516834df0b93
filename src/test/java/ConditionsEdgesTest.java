/** The boundary cases that the document names in promises 1 to 7, sentence by sentence. */
public final class ConditionsEdgesTest {
    private static final Check CHECK = new Check("ConditionsEdgesTest");
    private static final Twins TWINS = new Twins(CHECK);
    private static final int[] BELOW = {Integer.MIN_VALUE, Integer.MIN_VALUE + 1, -1000, -1};
    private static final int[] ABOVE = {1000, 1001, 65537, Integer.MAX_VALUE};
    private static final Twins.Calls EMPTY = made -> { };
    private static final Twins.Calls TEN = made -> Made.putElevenths(made, 10);

    public static void main(String[] args) {
        anEmptyList();
        anEmptyBuffer();
        addsOneThatIsOn();
        addArgumentsOutOfRange();
        addTheTenth();
        addUpToTheGreatestN();
        addBehindTheGreatestN();
        removeReturnsHowManyThereAre();
        removeWithoutSuchACondition();
        toggleOffAndOn();
        toggleWithoutSuchACondition();
        toggleUpToTheGreatestN();
        toggleOnWhatAsksForNothing();
        barePutsWhatItComesTo();
        bareChangesNothingElse();
        bareWithoutSuchACondition();
        bareOfAVoidOne();
        thinByAscendingNumbers();
        thinOfThoseThatAreOn();
        thinOfAllNumbers();
        thinLeavesWhatTheyComeTo();
        thinOfWhatIsNotPossible();
        agreeOnJustThose();
        agreeOnNone();
        agreeUpToTheGreatestN();
        CHECK.end();
    }

    // ---- promise 1

    private static void anEmptyList() {
        int[] due = {0, 0, 0, 0, 1, 0, 0};
        for (int what = 0; what <= 6; what++) {
            TWINS.looks("new: count " + what, due[what], EMPTY, looker(what));
        }
        TWINS.looks("new: N", 1, EMPTY, made -> made.joined(0));
        TWINS.looks("new: R", 0, EMPTY, made -> made.joined(1));
        TWINS.looks("new: most", 0, EMPTY, made -> made.most());
        TWINS.looks("new: blame", -1, EMPTY, made -> made.blame());
        CHECK.dueDouble("new: density", new SharedModuli().density(), 1.0);
        TWINS.looks("new: answer", 0, EMPTY, made -> made.answer(0, 0));
        TWINS.looks("new: nearest", 0, EMPTY, made -> made.nearest(0));
        TWINS.looks("new: between", 1, EMPTY, made -> made.between(0, 0));
        TWINS.looks("new: misses", 0, EMPTY, made -> made.misses(0));
        TWINS.badIndex("new: condition", EMPTY, made -> made.condition(0, 0));
        TWINS.badIndex("new: agrees", EMPTY, made -> made.agrees(0, 0));
        TWINS.badIndex("new: without", EMPTY, made -> made.without(0, 0));
        TWINS.badState("new: undo", EMPTY, made -> made.undo());
        SharedModuli one = new SharedModuli();
        SharedModuli other = new SharedModuli();
        one.add(1, 1, 2);
        one.append('x');
        CHECK.due("objects share nothing", other.count(0) + other.clearBuffer() + other.count(6), 0);
    }

    private static Twins.Asked looker(int what) {
        return made -> made.count(what);
    }

    private static void anEmptyBuffer() {
        TWINS.looks("new: clearBuffer", 0, EMPTY, made -> made.clearBuffer());
        TWINS.looks("new: firstError", 0, EMPTY, made -> made.firstError());
        TWINS.badArgument("new: read", EMPTY, made -> made.read());
        CHECK.due("new: append", new SharedModuli().append('x'), 1);
    }

    // ---- promise 2

    private static void addsOneThatIsOn() {
        SharedModuli made = new SharedModuli();
        CHECK.due("add: its number", made.add(12, 34, 56), 0);
        int[] due = {12, 34, 56, 1};
        for (int what = 0; what < due.length; what++) {
            CHECK.due("add: " + what, made.condition(0, what), due[what]);
        }
        made.toggle(0);
        CHECK.due("add: the next number", made.add(1, 0, 1), 1);
        CHECK.due("add: it is on", made.condition(1, 3), 1);
        CHECK.due("add: the other stays off", made.condition(0, 3), 0);
    }

    private static void addArgumentsOutOfRange() {
        Twins.Calls one = made -> Made.put(made, 1, 1, 2);
        for (int[] bad : new int[][] {BELOW, ABOVE}) {
            for (int part : bad) {
                TWINS.badArgument("add: a " + part, one, made -> made.add(part, 0, 1));
                TWINS.badArgument("add: b " + part, one, made -> made.add(1, part, 1));
                TWINS.badArgument("add: m " + part, one, made -> made.add(1, 0, part));
            }
        }
        TWINS.badArgument("add: a 0", one, made -> made.add(0, 0, 1));
        TWINS.badArgument("add: m 0", one, made -> made.add(1, 0, 0));
        TWINS.undoable("add: b 0", 1, one, made -> made.add(1, 0, 1));
        for (int part : new int[] {1, 2, 998, 999}) {
            TWINS.undoable("add: a " + part, 1, one, made -> made.add(part, 0, 1));
            TWINS.undoable("add: b " + part, 1, one, made -> made.add(1, part, 1));
            TWINS.undoable("add: m " + part, 1, one, made -> made.add(1, 0, part));
        }
    }

    private static void addTheTenth() {
        SharedModuli made = new SharedModuli();
        Made.putElevenths(made, 8);
        CHECK.due("add: the ninth", made.add(1, 8, 11), 8);
        CHECK.due("add: the tenth", made.add(1, 9, 11), 9);
        CHECK.due("add: ten are on", made.count(1), 10);
        TWINS.badState("add: the eleventh", TEN, to -> to.add(1, 10, 11));
        TWINS.badState("add: the eleventh, all numbers", TEN, to -> to.add(1, 0, 1));
        TWINS.badState("add: the eleventh, void", TEN, to -> to.add(2, 1, 2));
    }

    private static void addUpToTheGreatestN() {
        TWINS.undoable("add: N just inside", 5, made -> Made.putModuli(made, Made.INSIDE, 5), made -> made.add(1, 0, 17));
        TWINS.badState("add: N just outside", made -> Made.putModuli(made, Made.OUTSIDE, 5), made -> made.add(1, 0, 37));
        TWINS.badState("add: N far outside", made -> Made.putModuli(made, Made.INSIDE, 5), made -> made.add(1, 0, 991));
        SharedModuli made = new SharedModuli();
        Made.putModuli(made, Made.INSIDE, 6);
        CHECK.due("add: N just inside", made.joined(0), Made.INSIDE_N);
        CHECK.due("add: it is answered", made.answer(1, 0), Made.INSIDE_N);
    }

    private static void addBehindTheGreatestN() {
        SharedModuli made = new SharedModuli();
        Made.putModuli(made, Made.INSIDE, 6);
        TWINS.badState("add: 2 more", to -> Made.putModuli(to, Made.INSIDE, 6), to -> to.add(1, 0, 2 * 332));
        CHECK.badState("add: 3", () -> made.add(1, 0, 3));
        CHECK.due("add: 1", made.add(1, 0, 1), 6);
        CHECK.due("add: what is in it", made.add(1, 0, 28), 7);
        CHECK.due("add: void", made.add(3, 1, 3), 8);
        CHECK.due("add: what contradicts, of a modulus that is in it", made.add(1, 1, 4), 9);
    }

    // ---- promise 3

    private static void removeReturnsHowManyThereAre() {
        SharedModuli made = Twins.made(TEN);
        for (int left = 9; left >= 0; left--) {
            CHECK.due("remove: left", made.remove(left / 2), left);
            CHECK.due("remove: conditions", made.count(0), left);
            CHECK.due("remove: those that are on", made.count(1), left);
            CHECK.due("remove: pairs", made.count(3), left * (left - 1) / 2);
        }
        CHECK.due("remove: N of none", made.joined(0), 1);
        CHECK.due("remove: saved", made.count(6), 6);
        TWINS.undoable("remove: the only one", 0, to -> Made.put(to, 1, 1, 2), to -> to.remove(0));
        SharedModuli twins = Made.with(1, 0, 2, 1, 1, 2, 1, 0, 2);
        twins.remove(1);
        CHECK.due("remove: the others agree then", twins.count(4), 1);
        CHECK.due("remove: each is told by the other", twins.count(5), 2);
    }

    private static void removeWithoutSuchACondition() {
        Twins.Calls three = made -> Made.put(made, 1, 1, 2, 1, 1, 3, 1, 1, 5);
        for (int number : new int[] {Integer.MIN_VALUE, -2, -1, 3, 4, 9, 10, Integer.MAX_VALUE}) {
            TWINS.badIndex("remove: " + number + " of three", three, made -> made.remove(number));
        }
        for (int number = 0; number <= 2; number++) {
            int there = number;
            TWINS.undoable("remove: " + number + " of three", 2, three, made -> made.remove(there));
        }
        TWINS.badIndex("remove: of none", EMPTY, made -> made.remove(0));
        TWINS.badIndex("remove: 10 of ten", TEN, made -> made.remove(10));
        TWINS.badIndex("remove: -1 of ten", TEN, made -> made.remove(-1));
        CHECK.due("remove: 9 of ten", Twins.made(TEN).remove(9), 9);
        CHECK.due("remove: 0 of ten", Twins.made(TEN).remove(0), 9);
        SharedModuli made = Twins.made(three);
        made.remove(2);
        CHECK.badIndex("remove: what is removed already", () -> made.remove(2));
    }

    // ---- promise 4

    private static void toggleOffAndOn() {
        SharedModuli made = Twins.made(TEN);
        for (int k = 0; k < 10; k++) {
            CHECK.due("toggle: off " + k, made.toggle(k), 0);
            CHECK.due("toggle: on are", made.count(1), 9 - k);
            CHECK.due("toggle: there are", made.count(0), 10);
            CHECK.due("toggle: it is off", made.condition(k, 3), 0);
        }
        CHECK.due("toggle: N, all off", made.joined(0), 1);
        for (int k = 0; k < 10; k++) {
            CHECK.due("toggle: on " + k, made.toggle(k), 1);
            CHECK.due("toggle: on are", made.count(1), k + 1);
            CHECK.due("toggle: it is on", made.condition(k, 3), 1);
        }
        TWINS.alike("toggle: twice", to -> {
            Made.put(to, 1, 1, 2);
            to.toggle(0);
            to.toggle(0);
            to.undo();
            to.undo();
        }, to -> Made.put(to, 1, 1, 2));
    }

    private static void toggleWithoutSuchACondition() {
        Twins.Calls three = made -> Made.put(made, 1, 1, 2, 1, 1, 3, 1, 1, 5);
        for (int number : new int[] {Integer.MIN_VALUE, -32, -1, 3, 4, 9, 10, 31, 32, Integer.MAX_VALUE}) {
            TWINS.badIndex("toggle: " + number + " of three", three, made -> made.toggle(number));
        }
        for (int number = 0; number <= 2; number++) {
            int there = number;
            TWINS.undoable("toggle: " + number + " of three", 0, three, made -> made.toggle(there));
        }
        TWINS.badIndex("toggle: of none", EMPTY, made -> made.toggle(0));
        TWINS.badIndex("toggle: 10 of ten", TEN, made -> made.toggle(10));
        CHECK.due("toggle: 9 of ten", Twins.made(TEN).toggle(9), 0);
    }

    /** All of the moduli, the one by this number switched off before the last came. */
    private static Twins.Calls allButOneOn(int[] moduli, int off) {
        return made -> {
            Made.putModuli(made, moduli, moduli.length - 1);
            made.toggle(off);
            made.add(1, 0, moduli[moduli.length - 1]);
        };
    }

    private static void toggleUpToTheGreatestN() {
        for (int off = 0; off < 5; off++) {
            int number = off;
            SharedModuli made = Twins.made(allButOneOn(Made.INSIDE, off));
            CHECK.due("toggle: N just inside, " + off, made.toggle(off), 1);
            CHECK.due("toggle: N then", made.joined(0), Made.INSIDE_N);
            CHECK.due("toggle: off again", made.toggle(off), 0);
            CHECK.due("toggle: the last off", made.toggle(5), 0);
            CHECK.due("toggle: both on", made.toggle(5) + made.toggle(off), 2);
            Twins.Calls outside = allButOneOn(Made.OUTSIDE, off);
            TWINS.badState("toggle: N just outside, " + off, outside, to -> to.toggle(number));
            SharedModuli other = Twins.made(outside);
            CHECK.due("toggle: off at a great N", other.toggle(5), 0);
            CHECK.due("toggle: then there is room", other.toggle(off), 1);
            CHECK.badState("toggle: and then none for the last", () -> other.toggle(5));
            CHECK.due("toggle: it stays off", other.condition(5, 3), 0);
        }
    }

    private static void toggleOnWhatAsksForNothing() {
        SharedModuli made = Made.with(3, 1, 3, 1, 1, 4, 9, 9, 9, 1, 5, 8);
        for (int k = 0; k < 4; k++) {
            made.toggle(k);
        }
        Made.putModuli(made, Made.INSIDE, 6);
        CHECK.due("toggle: a void one on", made.toggle(0), 1);
        CHECK.due("toggle: one that contradicts, by 4", made.toggle(1), 1);
        CHECK.due("toggle: all numbers on", made.toggle(2), 1);
        CHECK.badState("toggle: by 8", () -> made.toggle(3));
        CHECK.due("toggle: nine are on", made.count(1), 9);
        CHECK.due("toggle: the void one off", made.toggle(0), 0);
        CHECK.badState("toggle: by 8, though they contradict", () -> made.toggle(3));
    }

    // ---- promise 5

    private static void bared(int n, int r, int a, int b, int m) {
        String name = "bare: " + a + "x=" + b + "%" + m;
        SharedModuli made = Made.with(a, b, m);
        CHECK.due(name, made.bare(0), n);
        int[] due = {1, r, n, 1, 0, n, r};
        for (int what = 0; what < due.length; what++) {
            CHECK.due(name + ", then " + what, made.condition(0, what), due[what]);
        }
        CHECK.due(name + ", once more", made.bare(0), n);
        CHECK.due(name + ", both are saved", made.count(6), 3);
    }

    private static void barePutsWhatItComesTo() {
        bared(1, 0, 1, 0, 1);
        bared(1, 0, 1, 999, 1);
        bared(1, 0, 999, 999, 999);
        bared(2, 0, 1, 2, 2);
        bared(2, 1, 1, 1, 2);
        bared(2, 1, 499, 499, 998);
        bared(999, 998, 1, 998, 999);
        bared(999, 0, 1, 999, 999);
        bared(998, 1, 1, 999, 998);
        bared(999, 1, 998, 998, 999);
        bared(7, 5, 1, 999, 7);
        bared(333, 332, 3, 996, 999);
    }

    private static void bareChangesNothingElse() {
        SharedModuli made = Made.with(6, 3, 9, 1, 1, 3, 4, 2, 6, 1, 0, 4);
        made.toggle(1);
        made.toggle(0);
        CHECK.due("bare: one that is off", made.bare(0), 3);
        CHECK.due("bare: it stays off", made.condition(0, 3), 0);
        CHECK.due("bare: another stays off", made.condition(1, 3), 0);
        CHECK.due("bare: its number stays", made.condition(0, 2), 3);
        CHECK.due("bare: there are four", made.count(0), 4);
        CHECK.due("bare: N", made.joined(0), 12);
        CHECK.due("bare: it agrees as before", made.agrees(0, 2), 1);
        CHECK.due("bare: it contradicts as before", made.agrees(0, 1), 0);
        CHECK.due("bare: one that is on", made.bare(2), 3);
        CHECK.due("bare: it stays on", made.condition(2, 3), 1);
        CHECK.due("bare: N is as before", made.joined(0), 12);
        SharedModuli great = new SharedModuli();
        for (int modulus : Made.INSIDE) {
            great.add(999 / modulus, 0, 999 / modulus * modulus);
        }
        CHECK.due("bare: at the greatest N", great.bare(5), 17);
        CHECK.due("bare: N stays", great.joined(0), Made.INSIDE_N);
    }

    private static void bareWithoutSuchACondition() {
        Twins.Calls two = made -> Made.put(made, 1, 1, 2, 1, 1, 3);
        for (int number : new int[] {Integer.MIN_VALUE, -1, 2, 3, 10, Integer.MAX_VALUE}) {
            TWINS.badIndex("bare: " + number + " of two", two, made -> made.bare(number));
        }
        TWINS.undoable("bare: 0 of two", 2, two, made -> made.bare(0));
        TWINS.undoable("bare: 1 of two", 3, two, made -> made.bare(1));
        TWINS.badIndex("bare: of none", EMPTY, made -> made.bare(0));
        TWINS.badIndex("bare: 10 of ten", TEN, made -> made.bare(10));
        CHECK.due("bare: 9 of ten", Twins.made(TEN).bare(9), 11);
    }

    private static void bareOfAVoidOne() {
        Twins.Calls some = made -> Made.put(made, 2, 1, 2, 2, 2, 2, 6, 5, 12, 6, 6, 12);
        TWINS.badState("bare: 2x=1%2", some, made -> made.bare(0));
        TWINS.undoable("bare: 2x=2%2", 1, some, made -> made.bare(1));
        TWINS.badState("bare: 6x=5%12", some, made -> made.bare(2));
        TWINS.undoable("bare: 6x=6%12", 2, some, made -> made.bare(3));
        TWINS.badState("bare: a void one that is off", made -> {
            some.on(made);
            made.toggle(0);
        }, made -> made.bare(0));
    }

    // ---- promise 6

    private static void thinned(String name, int due, int onThen, int... parts) {
        SharedModuli made = Made.with(parts);
        long n = made.joined(0);
        long r = made.joined(1);
        CHECK.due("thin: " + name, made.thin(), due);
        int on = 0;
        for (int k = 0; k < made.count(0); k++) {
            on |= made.condition(k, 3) << k;
        }
        CHECK.due("thin: " + name + ", on then", on, onThen);
        CHECK.due("thin: " + name + ", N", made.joined(0), n);
        CHECK.due("thin: " + name + ", R", made.joined(1), r);
        CHECK.due("thin: " + name + ", none is told then", made.count(5), 0);
        CHECK.due("thin: " + name + ", once more", made.thin(), 0);
    }

    /** "by ascending numbers, and switches each off that all others that are on then tell already" */
    private static void thinByAscendingNumbers() {
        thinned("the first by the second", 1, 0b10, 1, 1, 2, 1, 1, 4);
        thinned("the second by the first", 1, 0b01, 1, 1, 4, 1, 1, 2);
        thinned("of two that are alike the first", 1, 0b10, 1, 3, 5, 1, 3, 5);
        thinned("of three that are alike the first two", 2, 0b100, 1, 3, 5, 2, 1, 5, 3, 9, 15);
        thinned("the first by both others, which stay", 1, 0b110, 1, 5, 6, 1, 1, 2, 1, 2, 3);
        thinned("both by the last, which stays", 2, 0b100, 1, 1, 2, 1, 2, 3, 1, 5, 6);
        thinned("the first by the last, what is between stays", 1, 0b110, 1, 1, 2, 1, 2, 3, 1, 1, 4);
        thinned("each two tell the third", 1, 0b110, 1, 5, 6, 1, 5, 10, 1, 5, 15);
        thinned("none", 0, 0b111, 1, 1, 2, 1, 1, 3, 1, 1, 5);
        thinned("not by a multiple of 4 what asks for 8", 1, 0b10, 1, 1, 4, 1, 1, 8);
        thinned("of ten all but the last", 9, 1 << 9, 1, 0, 2, 1, 0, 4, 1, 0, 8, 1, 0, 16, 1, 0, 32, 1, 0, 64,
            1, 0, 128, 1, 0, 256, 1, 0, 512, 1, 0, 512);
        thinned("of ten all but the first", 9, 1, 1, 0, 512, 1, 0, 256, 1, 0, 128, 1, 0, 64, 1, 0, 32, 1, 0, 16,
            1, 0, 8, 1, 0, 4, 1, 0, 2, 1, 0, 1);
    }

    private static void thinOfThoseThatAreOn() {
        SharedModuli made = Made.with(1, 1, 2, 1, 1, 4, 1, 1, 8);
        made.toggle(2);
        made.toggle(1);
        CHECK.due("thin: what is off tells nothing", made.thin(), 0);
        CHECK.due("thin: the first stays on", made.condition(0, 3), 1);
        made.toggle(1);
        CHECK.due("thin: what is on again does", made.thin(), 1);
        CHECK.due("thin: the first is off", made.condition(0, 3), 0);
        CHECK.due("thin: the last stays off", made.condition(2, 3), 0);
        made.toggle(1);
        CHECK.due("thin: all are off", made.thin(), 0);
    }

    private static void thinOfAllNumbers() {
        thinned("all numbers, no others", 1, 0, 1, 0, 1);
        thinned("all numbers twice", 2, 0, 1, 0, 1, 9, 9, 9);
        thinned("all numbers and others", 1, 0b10, 5, 5, 5, 1, 1, 2);
        thinned("none is there", 0, 0);
        thinned("a single one", 0, 1, 1, 0, 2);
    }

    private static void thinLeavesWhatTheyComeTo() {
        SharedModuli made = new SharedModuli();
        Made.putModuli(made, Made.INSIDE, 6);
        made.add(1, 0, 89);
        made.add(1, 0, 187);
        CHECK.due("thin: at the greatest N", made.thin(), 2);
        CHECK.due("thin: 17 is told by 187", made.condition(5, 3), 0);
        CHECK.due("thin: 979 is told by 89 and 187", made.condition(2, 3), 0);
        CHECK.due("thin: 89 stays, as 979 is off", made.condition(6, 3), 1);
        CHECK.due("thin: 332 stays", made.condition(3, 3), 1);
        CHECK.due("thin: N stays", made.joined(0), Made.INSIDE_N);
    }

    private static void thinOfWhatIsNotPossible() {
        TWINS.badState("thin: two contradict", made -> Made.put(made, 1, 0, 2, 1, 1, 2, 1, 0, 1), made -> made.thin());
        TWINS.badState("thin: a void one", made -> Made.put(made, 1, 0, 1, 2, 1, 2), made -> made.thin());
        TWINS.badState("thin: a void one alone", made -> Made.put(made, 2, 1, 2), made -> made.thin());
        TWINS.undoable("thin: the void one is off", 1, made -> {
            Made.put(made, 1, 0, 1, 2, 1, 2);
            made.toggle(1);
        }, made -> made.thin());
        TWINS.undoable("thin: one of those that contradict is off", 1, made -> {
            Made.put(made, 1, 0, 2, 1, 1, 2, 1, 0, 1);
            made.toggle(1);
        }, made -> made.thin());
    }

    // ---- promise 7

    private static void agreed(String name, int mask, Twins.Calls before) {
        SharedModuli made = Twins.made(before);
        CHECK.due("agree: " + name + ", most", made.most(), mask);
        TWINS.undoable("agree: " + name, Integer.bitCount(mask), before, to -> to.agree());
        made.agree();
        for (int k = 0; k < made.count(0); k++) {
            CHECK.due("agree: " + name + ", " + k, made.condition(k, 3), mask >> k & 1);
        }
        CHECK.due("agree: " + name + ", possible then", made.count(4), 1);
        CHECK.due("agree: " + name + ", on then", made.count(1), Integer.bitCount(mask));
    }

    private static void agreeOnJustThose() {
        agreed("of two that contradict the first", 0b01, made -> Made.put(made, 1, 0, 2, 1, 1, 2));
        agreed("two before one", 0b110, made -> Made.put(made, 1, 0, 2, 1, 1, 2, 1, 1, 4));
        agreed("those that are off too", 0b11, made -> {
            Made.put(made, 1, 1, 2, 1, 1, 3);
            made.toggle(0);
            made.toggle(1);
        });
        agreed("those off before those on", 0b110, made -> {
            Made.put(made, 1, 0, 2, 1, 1, 2, 1, 1, 4);
            made.toggle(1);
            made.toggle(2);
        });
        SharedModuli ten = new SharedModuli();
        Made.putModuli(ten, new int[] {2, 4, 8, 16, 32, 64, 3, 9, 27, 81}, 10);
        ten.toggle(9);
        CHECK.due("agree: all ten", ten.agree(), 10);
        CHECK.due("agree: all ten are on", ten.count(1), 10);
        CHECK.due("agree: once more", ten.agree(), 10);
    }

    private static void agreeOnNone() {
        agreed("no conditions", 0, EMPTY);
        agreed("a void one alone", 0, made -> Made.put(made, 2, 1, 2));
        agreed("void ones", 0, made -> Made.put(made, 2, 1, 2, 4, 3, 4));
        agreed("a void one and another", 0b10, made -> Made.put(made, 2, 1, 2, 1, 0, 1));
    }

    private static void agreeUpToTheGreatestN() {
        for (int off = 0; off < 5; off++) {
            Twins.Calls inside = allButOneOn(Made.INSIDE, off);
            SharedModuli made = Twins.made(inside);
            CHECK.due("agree: N just inside, " + off, made.agree(), 6);
            CHECK.due("agree: N then", made.joined(0), Made.INSIDE_N);
            TWINS.badState("agree: N just outside, " + off, allButOneOn(Made.OUTSIDE, off), to -> to.agree());
        }
        SharedModuli made = Twins.made(allButOneOn(Made.OUTSIDE, 1));
        made.remove(1);
        CHECK.due("agree: without it", made.agree(), 5);
        SharedModuli void37 = new SharedModuli();
        Made.putModuli(void37, Made.OUTSIDE, 5);
        void37.add(37, 1, 37);
        CHECK.due("agree: a void one asks for nothing", void37.agree(), 5);
        CHECK.due("agree: N then", void37.joined(0), Made.OUTSIDE_N_OF_FIVE);
    }
}
