import java.util.ArrayList;
import java.util.List;

/** The boundary cases that the document names in 'Undo', 'Exceptions' and promise 12, sentence by sentence. */
public final class UndoEdgesTest {
    private static final Check CHECK = new Check("UndoEdgesTest");
    private static final Twins TWINS = new Twins(CHECK);
    private static final int ROW = 12;

    /** States that refused calls are tried in: none, one, some and all six states are saved. */
    private static final List<Twins.Calls> STATES = List.of(
        made -> { },
        made -> Made.put(made, 1, 1, 2),
        made -> {
            Made.put(made, 1, 1, 2, 2, 1, 2, 3, 1, 10);
            made.toggle(1);
            Made.type(made, "x=1%");
        },
        made -> {
            Made.putElevenths(made, 10);
            Made.type(made, "12x=34%56;");
        });

    public static void main(String[] args) {
        eachUndoableOneSaves();
        savesAlsoIfItChangesNothing();
        othersSaveNothing();
        allButTheBuffer();
        atMostSix();
        theOldestIsDroppedFirst();
        everyRowOfSavesAndUndos();
        noneIsLeft();
        restoresSwitchesAndAgreement();
        aRefusedCallChangesNothing();
        aRefusedCallOnAConditionChangesNothing();
        aRefusedCallBecauseOfNChangesNothing();
        theFirstNamedExceptionIsThrown();
        upToThe512thCall();
        CHECK.end();
    }

    /** "Each method that is marked 'undoable' ... saves the state from before it" */
    private static void eachUndoableOneSaves() {
        Twins.Calls two = made -> Made.put(made, 6, 9, 21, 1, 1, 2);
        TWINS.undoable("add", 2, two, made -> made.add(1, 1, 3));
        TWINS.undoable("remove", 1, two, made -> made.remove(0));
        TWINS.undoable("remove the last", 1, two, made -> made.remove(1));
        TWINS.undoable("toggle off", 0, two, made -> made.toggle(0));
        TWINS.undoable("bare", 7, two, made -> made.bare(0));
        TWINS.undoable("thin", 1, made -> Made.put(made, 1, 1, 2, 1, 1, 4), made -> made.thin());
        TWINS.undoable("agree", 1, made -> Made.put(made, 1, 1, 2, 1, 0, 2), made -> made.agree());
        TWINS.undoable("toggle on", 1, made -> {
            two.on(made);
            made.toggle(0);
        }, made -> made.toggle(0));
        TWINS.alike("read, undone", made -> {
            two.on(made);
            Made.type(made, "x=1%3;x=1%5");
            CHECK.due("read", made.read(), 2);
            CHECK.due("read: one saved state more", made.count(6), 3);
            CHECK.due("read: undo", made.undo(), 2);
        }, two);
    }

    /** "(also if it changes nothing)" */
    private static void savesAlsoIfItChangesNothing() {
        TWINS.undoable("thin of none", 0, made -> { }, made -> made.thin());
        TWINS.undoable("thin, all are needed", 0, made -> Made.put(made, 1, 1, 2, 1, 1, 3), made -> made.thin());
        TWINS.undoable("agree of none", 0, made -> { }, made -> made.agree());
        TWINS.undoable("agree, all are on already", 2, made -> Made.put(made, 1, 1, 2, 1, 1, 3), made -> made.agree());
        TWINS.undoable("bare of a bare one", 2, made -> Made.put(made, 1, 1, 2), made -> made.bare(0));
        SharedModuli made = new SharedModuli();
        Made.putElevenths(made, 10);
        Made.type(made, "x=0%1");
        CHECK.due("read of none: saved before", made.count(6), 6);
        CHECK.due("read of none", made.read(), 0);
        CHECK.due("read of none: saved then", made.count(6), 6);
        CHECK.due("read of none: undo", made.undo(), 5);
        CHECK.due("read of none: as before", made.count(0), 10);
        CHECK.due("read of none: undo the last add", made.undo(), 4);
        CHECK.due("read of none: as before the last add", made.count(0), 9);
        TWINS.alike("read of none at a great N, undone", to -> {
            Made.putModuli(to, Made.OUTSIDE, 5);
            Made.type(to, "x=0%37");
            CHECK.due("read of none, N is too great", to.read(), 0);
            CHECK.due("read of none: one saved state more", to.count(6), 6);
            CHECK.due("read of none: undo", to.undo(), 5);
        }, to -> Made.putModuli(to, Made.OUTSIDE, 5));
    }

    private static void savesNothing(String call, Twins.Asked asked) {
        for (int saved = 0; saved <= 6; saved++) {
            SharedModuli made = new SharedModuli();
            Made.type(made, "x=1");
            Made.putElevenths(made, saved);
            asked.of(made);
            CHECK.due(call + " leaves the saved states", made.count(6), saved);
        }
    }

    private static void othersSaveNothing() {
        savesNothing("append", made -> made.append('x'));
        savesNothing("clearBuffer", made -> made.clearBuffer());
        savesNothing("firstError", made -> made.firstError());
        savesNothing("count", made -> made.count(5));
        savesNothing("joined", made -> made.joined(0));
        savesNothing("prime", made -> made.prime(11, 3));
        savesNothing("answer", made -> made.answer(7, 7));
        savesNothing("nearest", made -> made.nearest(7));
        savesNothing("between", made -> made.between(0, 7));
        savesNothing("misses", made -> made.misses(7));
        savesNothing("ifAdded", made -> made.ifAdded(1, 1, 2, 0));
        savesNothing("most", made -> made.most());
        savesNothing("blame", made -> made.blame());
        savesNothing("density", made -> (long) made.density());
        savesNothing("digest", made -> made.digest());
    }

    /** "all but the buffer and the saved states" */
    private static void allButTheBuffer() {
        SharedModuli made = new SharedModuli();
        Made.type(made, "x=1");
        made.add(1, 0, 2);
        Made.type(made, "%3");
        made.undo();
        CHECK.due("what was appended since stays", made.firstError(), 5);
        CHECK.due("what was there before stays", made.read(), 1);
        CHECK.due("it is told as it stood", made.joined(0), 3);
        made.undo();
        CHECK.due("what read has cleared stays clear", made.clearBuffer(), 0);
        made.add(1, 0, 2);
        Made.type(made, "x");
        made.toggle(0);
        made.clearBuffer();
        made.undo();
        CHECK.due("what clearBuffer has cleared stays clear", made.clearBuffer(), 0);
        CHECK.due("undo saves nothing itself", made.count(6), 1);
        CHECK.due("so the state before that is next", made.undo(), 0);
        CHECK.due("none is there", made.count(0), 0);
    }

    /** "At most 6 states are saved" */
    private static void atMostSix() {
        SharedModuli made = new SharedModuli();
        int[] due = {0, 1, 2, 3, 4, 5, 6, 6, 6, 6, 6};
        for (int k = 0; k <= 10; k++) {
            CHECK.due("saved after " + k, made.count(6), due[k]);
            if (k < 10) {
                made.add(1, k, 11);
            }
        }
        for (int left = 5; left >= 0; left--) {
            CHECK.due("left", made.undo(), left);
            CHECK.due("then saved", made.count(6), left);
        }
        CHECK.badState("no seventh", () -> made.undo());
        CHECK.due("four are there", made.count(0), 4);
    }

    /** "the oldest one is dropped first" */
    private static void theOldestIsDroppedFirst() {
        for (int calls = 5; calls <= 8; calls++) {
            SharedModuli made = new SharedModuli();
            Made.putElevenths(made, calls);
            int saved = Math.min(calls, 6);
            for (int left = saved - 1; left >= 0; left--) {
                CHECK.due(calls + " calls, left", made.undo(), left);
                CHECK.due(calls + " calls, conditions", made.count(0), calls - saved + left);
            }
            CHECK.badState(calls + " calls, all undone", () -> made.undo());
            CHECK.due(calls + " calls, then", made.count(0), calls - saved);
        }
    }

    /** Each row of adds and undos, also across the place where the oldest are dropped. */
    private static void everyRowOfSavesAndUndos() {
        for (int row = 0; row < 1 << ROW; row++) {
            SharedModuli made = new SharedModuli();
            List<List<Integer>> saved = new ArrayList<>();
            List<Integer> now = new ArrayList<>();
            for (int step = 0; step < ROW; step++) {
                if ((row >> step & 1) == 1 && now.size() < 10) {
                    saved.add(now);
                    now = new ArrayList<>(now);
                    now.add(step);
                    made.add(1, step, 13);
                } else if (!saved.isEmpty()) {
                    now = saved.remove(saved.size() - 1);
                    made.undo();
                }
                if (saved.size() > 6) {
                    saved.remove(0);
                }
            }
            goesBack("row " + Integer.toBinaryString(row), made, now, saved);
        }
    }

    private static void goesBack(String row, SharedModuli made, List<Integer> latest, List<List<Integer>> saved) {
        List<Integer> now = latest;
        for (int left = saved.size(); left >= 0; left--) {
            CHECK.due(row + ": saved", made.count(6), left);
            CHECK.due(row + ": conditions", made.count(0), now.size());
            for (int k = 0; k < now.size(); k++) {
                CHECK.due(row + ": remainder of " + k, made.condition(k, 1), now.get(k));
            }
            if (left > 0) {
                now = saved.get(left - 1);
                made.undo();
            }
        }
        CHECK.badState(row + ": no more", () -> made.undo());
    }

    /** "Throws IllegalStateException if there is none" */
    private static void noneIsLeft() {
        TWINS.badState("undo: none is saved", made -> Made.type(made, "x=1"), made -> made.undo());
        TWINS.badState("undo: the only one is taken back", made -> {
            made.add(1, 1, 2);
            made.undo();
        }, made -> made.undo());
        SharedModuli made = Made.with(1, 1, 2);
        CHECK.due("undo: the only one", made.undo(), 0);
        CHECK.due("undo: none is there then", made.count(0), 0);
        made.add(1, 2, 3);
        CHECK.due("undo: one is saved again", made.count(6), 1);
        CHECK.due("undo: and taken back", made.undo(), 0);
    }

    private static void restoresSwitchesAndAgreement() {
        Twins.Calls before = made -> {
            Made.put(made, 1, 0, 2, 1, 1, 2, 2, 1, 2, 3, 1, 10);
            made.toggle(1);
        };
        TWINS.undoable("remove one that is on", 3, before, made -> made.remove(0));
        TWINS.undoable("remove one that is off", 3, before, made -> made.remove(1));
        TWINS.undoable("remove a void one", 3, before, made -> made.remove(2));
        TWINS.undoable("toggle a void one", 0, before, made -> made.toggle(2));
        TWINS.undoable("agree", 2, before, made -> made.agree());
        TWINS.undoable("add a void one", 4, before, made -> made.add(2, 1, 4));
        SharedModuli made = Twins.made(before);
        made.remove(0);
        made.undo();
        CHECK.due("they contradict as before", made.agrees(0, 1), 0);
        CHECK.due("what was off is off", made.condition(1, 3), 0);
        CHECK.due("what was on is on", made.condition(0, 3), 1);
    }

    /** "A call that throws an exception changes nothing." */
    private static void aRefusedCallChangesNothing() {
        for (Twins.Calls state : STATES) {
            TWINS.badArgument("add: a", state, made -> made.add(0, 0, 1));
            TWINS.badArgument("add: b", state, made -> made.add(1, 1000, 1));
            TWINS.badArgument("add: m", state, made -> made.add(1, 0, 1000));
            TWINS.badArgument("append", state, made -> made.append(127));
            TWINS.badArgument("read", state, made -> made.read());
            TWINS.badArgument("joined", state, made -> made.joined(2));
            TWINS.badArgument("count", state, made -> made.count(7));
            TWINS.badArgument("prime: p", state, made -> made.prime(1, 0));
            TWINS.badArgument("prime: what", state, made -> made.prime(2, 4));
            TWINS.badArgument("answer: from", state, made -> made.answer(-1, 0));
            TWINS.badArgument("answer: index", state, made -> made.answer(0, 100));
            TWINS.badArgument("nearest", state, made -> made.nearest(-1));
            TWINS.badArgument("between: from", state, made -> made.between(-1, 0));
            TWINS.badArgument("between: to", state, made -> made.between(0, -1));
            TWINS.badArgument("misses", state, made -> made.misses(-1));
            TWINS.badArgument("ifAdded", state, made -> made.ifAdded(1, 0, 0, 0));
            TWINS.badArgument("ifAdded: what", state, made -> made.ifAdded(1, 0, 1, 4));
        }
        TWINS.badState("add: an eleventh", STATES.get(3), made -> made.add(1, 0, 1));
        TWINS.badState("append: a 61st", made -> Made.type(made, "x=1%".repeat(15)), made -> made.append('x'));
        TWINS.badState("bare: void", STATES.get(2), made -> made.bare(1));
        TWINS.badState("thin: not possible", STATES.get(3), made -> made.thin());
    }

    private static void aRefusedCallOnAConditionChangesNothing() {
        for (Twins.Calls state : STATES) {
            int behind = Twins.made(state).count(0);
            for (int number : new int[] {Integer.MIN_VALUE, -1, behind, behind + 1, 10, 32, Integer.MAX_VALUE}) {
                TWINS.badIndex("remove " + number, state, made -> made.remove(number));
                TWINS.badIndex("toggle " + number, state, made -> made.toggle(number));
                TWINS.badIndex("bare " + number, state, made -> made.bare(number));
                TWINS.badIndex("condition " + number, state, made -> made.condition(number, 0));
                TWINS.badIndex("agrees " + number, state, made -> made.agrees(number, 0));
                TWINS.badIndex("agrees 0 " + number, state, made -> made.agrees(0, number));
                TWINS.badIndex("without " + number, state, made -> made.without(number, 0));
            }
        }
        TWINS.badArgument("condition: what", STATES.get(1), made -> made.condition(0, 9));
        TWINS.badArgument("without: what", STATES.get(1), made -> made.without(0, 2));
    }

    private static void aRefusedCallBecauseOfNChangesNothing() {
        Twins.Calls outside = made -> Made.putModuli(made, Made.OUTSIDE, 5);
        TWINS.badState("add: N too great", outside, made -> made.add(1, 0, 37));
        Twins.Calls oneIsOff = made -> {
            outside.on(made);
            made.toggle(2);
            made.add(1, 0, 37);
        };
        TWINS.badState("toggle: N too great", oneIsOff, made -> made.toggle(2));
        TWINS.badState("agree: N too great", oneIsOff, made -> made.agree());
    }

    /** "If several exceptions apply, the one that is named first in the throws clause is thrown." */
    private static void theFirstNamedExceptionIsThrown() {
        Twins.Calls full = STATES.get(3);
        TWINS.badArgument("add: a, and full", full, made -> made.add(1000, 0, 1));
        TWINS.badArgument("add: b, and full", full, made -> made.add(1, -1, 1));
        TWINS.badArgument("add: m, and full", full, made -> made.add(1, 0, 0));
        TWINS.badArgument("add: b, and N too great", made -> Made.putModuli(made, Made.OUTSIDE, 5),
            made -> made.add(1, 1000, 37));
        Twins.Calls typed = made -> Made.type(made, "x=1%".repeat(15));
        TWINS.badArgument("append: 32, and full", typed, made -> made.append(32));
        TWINS.badArgument("append: 127, and full", typed, made -> made.append(127));
        TWINS.badIndex("condition: both", full, made -> made.condition(10, 9));
        TWINS.badIndex("condition: both below 0", full, made -> made.condition(-1, -1));
        TWINS.badIndex("without: both", full, made -> made.without(10, 2));
        TWINS.badIndex("without: both below 0", full, made -> made.without(-1, -1));
    }

    /** "An object is used for at most 512 calls" */
    private static void upToThe512thCall() {
        SharedModuli made = new SharedModuli();
        for (int row = 0; row < 85; row++) {
            CHECK.due("row " + row + ": add", made.add(1, row % 7, 7), 0);
            CHECK.due("row " + row + ": toggle", made.toggle(0), 0);
            CHECK.due("row " + row + ": append", made.append('x'), 1);
            CHECK.due("row " + row + ": undo", made.undo(), Math.min(2 * row + 1, 5));
            CHECK.due("row " + row + ": remove", made.remove(0), 0);
            CHECK.due("row " + row + ": clearBuffer", made.clearBuffer(), 1);
        }
        CHECK.due("the 511th call", made.add(1, 6, 7), 0);
        CHECK.due("the 512th call", made.joined(1), 6);
        SharedModuli asked = Made.with(1, 998, 999);
        for (int call = 2; call < 512; call++) {
            asked.ifAdded(1, 0, 1, 0);
        }
        CHECK.due("the 512th call", asked.joined(1), 998);
    }
}
