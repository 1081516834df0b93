/** Sees what a call leaves behind: a second object is made alike, and told apart by what it tells. */
final class Twins {
    /** Calls on an object, of any answers. */
    interface Calls {
        void on(SharedModuli made);
    }

    /** A call whose answer is a whole number. */
    interface Asked {
        long of(SharedModuli made);
    }

    private final Check check;

    Twins(Check check) {
        this.check = check;
    }

    static SharedModuli made(Calls calls) {
        SharedModuli made = new SharedModuli();
        calls.on(made);
        return made;
    }

    /** What the object tells now and in each of its saved states. */
    private static String trail(SharedModuli of) {
        StringBuilder told = new StringBuilder();
        told.append(of.digest());
        for (int left = of.count(6); left > 0; left--) {
            told.append(", undo ").append(of.undo()).append(": ").append(of.digest());
        }
        return told.toString();
    }

    /** After both rows of calls all is alike: conditions, switches, buffer and saved states. */
    void alike(String what, Calls one, Calls other) {
        String got = trail(made(one));
        String due = trail(made(other));
        check.isTrue(what + ": " + got + " is like " + due, got.equals(due));
    }

    /** The call answers what is due, and changes nothing. */
    void looks(String call, long due, Calls before, Asked asked) {
        alike(call + " changes nothing", made -> {
            before.on(made);
            check.due(call, asked.of(made), due);
        }, before);
    }

    /** The call throws what is due, and changes nothing. */
    void refused(String call, Class<? extends RuntimeException> due, Calls before, Asked asked) {
        alike(call + " changes nothing", made -> {
            before.on(made);
            check.dueThrow(call, due, () -> asked.of(made));
        }, before);
    }

    void badArgument(String call, Calls before, Asked asked) {
        refused(call, IllegalArgumentException.class, before, asked);
    }

    void badState(String call, Calls before, Asked asked) {
        refused(call, IllegalStateException.class, before, asked);
    }

    void badIndex(String call, Calls before, Asked asked) {
        refused(call, IndexOutOfBoundsException.class, before, asked);
    }

    /** The call answers what is due, one state more is saved then (of less than 6), and undo() brings it back. */
    void undoable(String call, long due, Calls before, Asked asked) {
        alike(call + ", undone", made -> {
            before.on(made);
            int saved = made.count(6);
            check.due(call, asked.of(made), due);
            check.due(call + ": then saved states", made.count(6), saved + 1);
            check.due(call + ": then undo", made.undo(), saved);
        }, before);
    }
}
