/** Promises 8 to 12: append, clearBuffer, firstError, read, undo. */
public final class TextsTest {
    private static final Check CHECK = new Check("TextsTest");

    public static void main(String[] args) {
        append();
        clearBuffer();
        firstErrorAtTheEnd();
        firstErrorWithin();
        read();
        readUpToARefusedOne();
        readOfWrongTexts();
        undo();
        undoLeavesTheBuffer();
        CHECK.end();
    }

    private static void type(SharedModuli into, String text) {
        into.clearBuffer();
        for (int k = 0; k < text.length(); k++) {
            into.append(text.charAt(k));
        }
    }

    private static void append() {
        SharedModuli made = new SharedModuli();
        CHECK.badArgument("append: 32", () -> made.append(32));
        CHECK.badArgument("append: 127", () -> made.append(127));
        CHECK.badArgument("append: -1", () -> made.append(-1));
        for (int k = 1; k <= 60; k++) {
            CHECK.due("append: length", made.append(k % 2 == 0 ? 33 : 126), k);
        }
        CHECK.badState("append: a 61st", () -> made.append(33));
        CHECK.badArgument("append: a 61st out of range", () -> made.append(32));
        CHECK.due("append: not undoable", made.count(6), 0);
        CHECK.due("append: 60 are kept", made.clearBuffer(), 60);
    }

    private static void clearBuffer() {
        SharedModuli made = new SharedModuli();
        CHECK.due("clearBuffer: empty", made.clearBuffer(), 0);
        type(made, "x=1");
        CHECK.due("clearBuffer: 3", made.clearBuffer(), 3);
        CHECK.due("clearBuffer: then none", made.clearBuffer(), 0);
        CHECK.due("clearBuffer: not undoable", made.count(6), 0);
        CHECK.due("clearBuffer: begins anew", made.append('x'), 1);
    }

    private static void errorAt(String text, int due) {
        SharedModuli made = new SharedModuli();
        type(made, text);
        CHECK.due("firstError: " + text, made.firstError(), due);
        CHECK.due("firstError changes nothing: " + text, made.clearBuffer(), text.length());
    }

    private static void firstErrorAtTheEnd() {
        for (String text : new String[] {"", "9", "99", "999", "x", "999x", "x=", "x=0", "x=999", "x=0%", "x=0%9",
            "x=0%999", "x=0%1;", "x=0%1;9", "12x=34%56;78x=90%12", "1x=10%10;x=0%100;x=1%1"}) {
            errorAt(text, text.length());
        }
        errorAt("x=0%1;x=0%1;x=0%1;x=0%1;x=0%1;x=0%1;x=0%1;x=0%1;x=0%1;x=0%1;", 60);
    }

    private static void firstErrorWithin() {
        errorAt("0", 0);
        errorAt("0x=1%2", 0);
        errorAt("=", 0);
        errorAt(";x=0%1", 0);
        errorAt("%", 0);
        errorAt("X=0%1", 0);
        errorAt("-1x=0%1", 0);
        errorAt("1000x=0%1", 3);
        errorAt("10=", 2);
        errorAt("xx", 1);
        errorAt("x0", 1);
        errorAt("x==", 2);
        errorAt("x=%1", 2);
        errorAt("x=x", 2);
        errorAt("x=00", 3);
        errorAt("x=01%1", 3);
        errorAt("x=1000", 5);
        errorAt("x=1009", 5);
        errorAt("x=9999", 5);
        errorAt("x=1;", 3);
        errorAt("x=0%0", 4);
        errorAt("x=0%;", 4);
        errorAt("x=0%1000", 7);
        errorAt("x=0%1x", 5);
        errorAt("x=0%1%", 5);
        errorAt("x=0%1;;", 6);
        errorAt("x=0%1;0", 6);
        errorAt("x=0%1;x!=0%1", 7);
        errorAt("x=0/1", 3);
        errorAt("x=0:1", 3);
    }

    private static void read() {
        SharedModuli made = new SharedModuli();
        made.add(1, 0, 1);
        type(made, "x=2%6;3x=4%10;999x=0%999");
        CHECK.due("read: three", made.read(), 3);
        CHECK.due("read: the buffer is clear", made.clearBuffer(), 0);
        CHECK.due("read: factor left out", made.condition(1, 0), 1);
        CHECK.due("read: remainder", made.condition(1, 1), 2);
        CHECK.due("read: modulus", made.condition(1, 2), 6);
        CHECK.due("read: on", made.condition(1, 3), 1);
        CHECK.due("read: factor", made.condition(2, 0), 3);
        CHECK.due("read: remainder", made.condition(2, 1), 4);
        CHECK.due("read: modulus", made.condition(2, 2), 10);
        CHECK.due("read: factor", made.condition(3, 0), 999);
        CHECK.due("read: remainder 0", made.condition(3, 1), 0);
        CHECK.due("read: modulus", made.condition(3, 2), 999);
        CHECK.due("read: one saved state", made.count(6), 2);
        CHECK.due("read: undone as one", made.undo(), 1);
        CHECK.due("read: only the first is left", made.count(0), 1);
    }

    private static void readUpToARefusedOne() {
        SharedModuli made = new SharedModuli();
        type(made, "x=0%997;x=0%991;x=0%983;x=0%977;x=0%971;x=0%967;x=0%1");
        CHECK.due("read: up to the one that N is too great for", made.read(), 5);
        CHECK.due("read: none behind it", made.count(0), 5);
        CHECK.due("read: the buffer is clear", made.clearBuffer(), 0);
        type(made, "x=0%2");
        CHECK.due("read: none", made.read(), 0);
        CHECK.due("read: saved also if none is added", made.count(6), 2);
        SharedModuli full = new SharedModuli();
        for (int k = 0; k < 9; k++) {
            full.add(1, 0, 1);
        }
        type(full, "x=5%7;x=6%7");
        CHECK.due("read: up to 10", full.read(), 1);
        CHECK.due("read: the tenth", full.condition(9, 1), 5);
    }

    private static void readOfWrongTexts() {
        SharedModuli made = new SharedModuli();
        for (String text : new String[] {"", "5", "x", "x=", "x=1", "x=1%", "x=1%2;", "x=1%2;3", "0x=1%2", "x=1%2;;x=1%2",
            "x=1%0", "x=1%1000", "x=1%2!"}) {
            type(made, text);
            CHECK.badArgument("read: " + text, () -> made.read());
            CHECK.due("read: nothing added of " + text, made.count(0), 0);
            CHECK.due("read: the buffer stays: " + text, made.clearBuffer(), text.length());
        }
        CHECK.due("read: nothing saved", made.count(6), 0);
    }

    private static void undo() {
        SharedModuli made = new SharedModuli();
        CHECK.badState("undo: none", () -> made.undo());
        for (int k = 0; k < 8; k++) {
            made.add(1, k, 10);
        }
        CHECK.due("undo: six are kept", made.count(6), 6);
        for (int left = 5; left >= 0; left--) {
            CHECK.due("undo: left", made.undo(), left);
            CHECK.due("undo: conditions", made.count(0), left + 2);
            CHECK.due("undo: the last one", made.condition(left + 1, 1), left + 1);
        }
        CHECK.badState("undo: the oldest ones were dropped", () -> made.undo());
        CHECK.due("undo: they agree with nothing but themselves", made.count(3), 1);
        made.add(1, 0, 1);
        CHECK.due("undo: saved again", made.undo(), 0);
        made.remove(0);
        made.undo();
        CHECK.due("undo: they agree as before", made.agrees(0, 0), 1);
        CHECK.due("undo: they contradict as before", made.agrees(0, 1), 0);
        CHECK.due("undo: undo itself is not undoable", made.count(6), 0);
    }

    private static void undoLeavesTheBuffer() {
        SharedModuli made = new SharedModuli();
        made.add(1, 0, 1);
        type(made, "x=1%2");
        made.undo();
        CHECK.due("undo: the buffer stays", made.clearBuffer(), 5);
        type(made, "x=1%2");
        made.read();
        made.undo();
        CHECK.due("undo: what read has cleared stays clear", made.clearBuffer(), 0);
    }
}
