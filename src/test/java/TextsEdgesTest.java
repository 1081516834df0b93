/** The boundary cases that the document names in 'Input text' and in promises 8 to 11, sentence by sentence. */
public final class TextsEdgesTest {
    private static final Check CHECK = new Check("TextsEdgesTest");
    private static final Twins TWINS = new Twins(CHECK);
    private static final Twins.Calls EMPTY = made -> { };
    private static final String DIGITS = "0123456789";
    private static final String NOT_ZERO = "123456789";

    /** Where a text stands, and the signs that it may go on with. */
    private static final String[][] PLACES = {
        {"", NOT_ZERO + "x"},
        {"1", DIGITS + "x"},
        {"9", DIGITS + "x"},
        {"10", DIGITS + "x"},
        {"99", DIGITS + "x"},
        {"100", "x"},
        {"999", "x"},
        {"x", "="},
        {"1x", "="},
        {"999x", "="},
        {"x=", DIGITS},
        {"x=0", "%"},
        {"x=1", DIGITS + "%"},
        {"x=9", DIGITS + "%"},
        {"x=10", DIGITS + "%"},
        {"x=99", DIGITS + "%"},
        {"x=100", "%"},
        {"x=999", "%"},
        {"x=0%", NOT_ZERO},
        {"x=999%", NOT_ZERO},
        {"x=0%1", DIGITS + ";"},
        {"x=0%9", DIGITS + ";"},
        {"x=0%10", DIGITS + ";"},
        {"x=0%99", DIGITS + ";"},
        {"x=0%100", ";"},
        {"x=0%999", ";"},
    };

    public static void main(String[] args) {
        atMostSixtyCharacters();
        appendCodes();
        clearsTheBuffer();
        eachSignAtEachPlace();
        eachSignInALaterCondition();
        theFirstErrorCounts();
        errorsAtTheEdgesOfTheBuffer();
        ofAnyLength();
        oneOrMoreConditions();
        withoutAFactorItIsOne();
        leastAndGreatestNumbers();
        notAText();
        addsAsAddDoes();
        readUpToTen();
        readUpToTheGreatestN();
        readOfNone();
        CHECK.end();
    }

    private static Twins.Calls typed(String text) {
        return made -> Made.type(made, text);
    }

    // ---- promise 8

    /** "The buffer has at most 60 characters." */
    private static void atMostSixtyCharacters() {
        SharedModuli made = new SharedModuli();
        for (int k = 1; k <= 60; k++) {
            CHECK.due("append: the length", made.append(33 + k), k);
        }
        CHECK.badState("append: a 61st", () -> made.append(33));
        CHECK.badState("append: a 61st again", () -> made.append(126));
        CHECK.due("append: 60 are there", made.clearBuffer(), 60);
        CHECK.due("append: there is room again", made.append(33), 1);
        TWINS.badState("append: a 61st", typed("x".repeat(60)), to -> to.append('x'));
        Twins.Calls valid = typed("x=0%1;".repeat(9) + "x=0%1");
        SharedModuli read = Twins.made(valid);
        CHECK.due("append: a 60th", read.append('1'), 60);
        CHECK.badState("append: then a 61st", () -> read.append('1'));
        CHECK.due("append: the refused one is not told", read.read(), 10);
        CHECK.due("append: the last modulus", read.condition(9, 2), 11);
        CHECK.due("append: there is room after read", read.append(33), 1);
    }

    /** "code: the character code, 33 to 126" */
    private static void appendCodes() {
        for (int code : new int[] {Integer.MIN_VALUE, -1, 0, 31, 32, 127, 128, 33 + 256, 65536 + 'x', Integer.MAX_VALUE}) {
            TWINS.badArgument("append: " + code, EMPTY, made -> made.append(code));
            TWINS.badArgument("append: " + code + " behind others", typed("x="), made -> made.append(code));
            TWINS.badArgument("append: " + code + " behind 60", typed("x".repeat(60)), made -> made.append(code));
        }
        long seen = 0;
        for (int code = 33; code <= 126; code++) {
            SharedModuli made = new SharedModuli();
            CHECK.due("append: " + code, made.append(code), 1);
            CHECK.due("append: nothing saved", made.count(6), 0);
            long digest = made.digest();
            CHECK.due("append: its code is kept", digest - seen, code == 33 ? digest : 1);
            seen = digest;
        }
    }

    // ---- promise 9

    private static void clearsTheBuffer() {
        for (int length : new int[] {0, 1, 2, 59, 60}) {
            SharedModuli made = Made.with(1, 1, 2);
            Made.type(made, "x".repeat(length));
            CHECK.due("clearBuffer: " + length, made.clearBuffer(), length);
            CHECK.due("clearBuffer: once more", made.clearBuffer(), 0);
            CHECK.due("clearBuffer: no error is left", made.firstError(), 0);
            CHECK.badArgument("clearBuffer: nothing to read", () -> made.read());
            CHECK.due("clearBuffer: the conditions stay", made.count(0), 1);
        }
        TWINS.alike("clearBuffer: as if nothing had been there", made -> {
            Made.put(made, 1, 1, 2);
            Made.type(made, "x=1%3");
            made.clearBuffer();
        }, made -> Made.put(made, 1, 1, 2));
    }

    // ---- promise 10

    private static void goesOn(String before, String allowed) {
        for (char sign = 33; sign <= 126; sign++) {
            boolean fits = allowed.indexOf(sign) >= 0;
            SharedModuli made = new SharedModuli();
            Made.type(made, before + sign);
            CHECK.due("firstError: " + before + sign, made.firstError(), before.length() + (fits ? 1 : 0));
        }
    }

    /** "a character is a syntax error if no conditions as a text ... begin with the characters before it and this one" */
    private static void eachSignAtEachPlace() {
        for (String[] place : PLACES) {
            TWINS.looks("firstError: " + place[0], place[0].length(), typed(place[0]), made -> made.firstError());
            goesOn(place[0], place[1]);
        }
    }

    private static void eachSignInALaterCondition() {
        for (String[] place : PLACES) {
            goesOn("x=0%1;" + place[0], place[1]);
            goesOn("999x=999%999;x=9%9;12x=34%56;" + place[0], place[1]);
        }
    }

    /** "The buffer is read from left to right" */
    private static void theFirstErrorCounts() {
        for (String[] place : PLACES) {
            SharedModuli made = new SharedModuli();
            Made.type(made, place[0] + "!x=0%1;x=0%1");
            CHECK.due("firstError: " + place[0] + "!, and then a text", made.firstError(), place[0].length());
            CHECK.due("firstError: asked again", made.firstError(), place[0].length());
            CHECK.badArgument("read: " + place[0] + "!, and then a text", () -> made.read());
        }
        SharedModuli made = new SharedModuli();
        Made.type(made, "0x=00%01;;");
        CHECK.due("firstError: of many the first", made.firstError(), 0);
    }

    private static void errorsAtTheEdgesOfTheBuffer() {
        String nine = "x=0%1;".repeat(9);
        TWINS.looks("firstError: the 60th", 59, typed(nine + "x=0%1!"), made -> made.firstError());
        TWINS.looks("firstError: the 59th", 58, typed(nine + "x=0%!1"), made -> made.firstError());
        TWINS.looks("firstError: the first of 60", 0, typed("!" + nine + "x=0%1"), made -> made.firstError());
        TWINS.looks("firstError: none of 60", 60, typed(nine + "x=0%12"), made -> made.firstError());
        TWINS.looks("firstError: none of 59", 59, typed(nine + "x=0%1"), made -> made.firstError());
        TWINS.looks("firstError: the only one", 0, typed("!"), made -> made.firstError());
        TWINS.looks("firstError: none", 0, EMPTY, made -> made.firstError());
    }

    /** "no conditions as a text, of any length": also of more than the buffer has */
    private static void ofAnyLength() {
        String nine = "x=0%1;".repeat(9);
        for (String end : new String[] {"x=0%1;", "12x=12", "x=123%", "123x=1", "x=0%12"}) {
            TWINS.looks("firstError: 60 that end in " + end, 60, typed(nine + end), made -> made.firstError());
        }
        for (String end : new String[] {"x=0%1;", "12x=12", "x=123%", "123x=1"}) {
            TWINS.badArgument("read: 60 that end in " + end, typed(nine + end), made -> made.read());
        }
    }

    // ---- promise 11

    private static SharedModuli read(String text, int due) {
        SharedModuli made = new SharedModuli();
        Made.type(made, text);
        CHECK.due("read: " + text, made.read(), due);
        CHECK.due("read: " + text + ", conditions", made.count(0), due);
        CHECK.due("read: " + text + ", saved", made.count(6), 1);
        CHECK.due("read: " + text + ", the buffer", made.clearBuffer(), 0);
        return made;
    }

    private static void told(SharedModuli of, int number, int... due) {
        for (int what = 0; what < due.length; what++) {
            CHECK.due("read: condition " + number + ", " + what, of.condition(number, what), due[what]);
        }
    }

    /** "Conditions as a text are one or more conditions with ';' between them" */
    private static void oneOrMoreConditions() {
        told(read("x=0%1", 1), 0, 1, 0, 1, 1);
        SharedModuli two = read("x=1%2;3x=4%5", 2);
        told(two, 0, 1, 1, 2, 1);
        told(two, 1, 3, 4, 5, 1);
        SharedModuli ten = read("x=0%1;x=1%2;x=2%3;x=3%4;x=4%5;x=5%6;x=6%7;x=7%8;x=8%9;x=9%10", 10);
        for (int k = 0; k < 10; k++) {
            told(ten, k, 1, k, k + 1, 1);
        }
        for (String text : new String[] {";", ";x=0%1", "x=0%1;", "x=0%1;;x=0%1", "x=0%1;;", "x=0%1,x=0%1", "x=0%1x=0%1"}) {
            TWINS.badArgument("read: " + text, typed(text), made -> made.read());
        }
    }

    /** "perhaps a factor", "(without a factor it is 1)" */
    private static void withoutAFactorItIsOne() {
        told(read("x=5%7", 1), 0, 1, 5, 7, 1);
        told(read("1x=5%7", 1), 0, 1, 5, 7, 1);
        told(read("2x=5%7", 1), 0, 2, 5, 7, 1);
        told(read("999x=5%7;x=5%7", 2), 1, 1, 5, 7, 1);
        told(read("x=999%998;x=5%7", 2), 1, 1, 5, 7, 1);
    }

    /** "a factor, 1 to 999", "a remainder, 0 to 999", "a modulus, 1 to 999", "without leading zeros" */
    private static void leastAndGreatestNumbers() {
        told(read("999x=999%999", 1), 0, 999, 999, 999, 1);
        told(read("1x=0%1", 1), 0, 1, 0, 1, 1);
        told(read("10x=10%10", 1), 0, 10, 10, 10, 1);
        told(read("100x=100%100", 1), 0, 100, 100, 100, 1);
        told(read("998x=990%909", 1), 0, 998, 990, 909, 1);
        for (String text : new String[] {"0x=0%1", "00x=0%1", "01x=0%1", "1000x=0%1", "9999x=0%1", "x=00%1", "x=01%1",
            "x=1000%1", "x=0%0", "x=0%00", "x=0%01", "x=0%1000", "x=0%9990", "-1x=0%1", "x=-1%1", "x=0%-1", "+1x=0%1"}) {
            TWINS.badArgument("read: " + text, typed(text), made -> made.read());
        }
    }

    /** "Throws IllegalArgumentException if the buffer does not tell conditions as a text" */
    private static void notAText() {
        String whole = "12x=34%56;7x=8%9";
        for (int length = 0; length <= whole.length(); length++) {
            String text = whole.substring(0, length);
            if (text.matches("12x=34%56?|.*%9")) {
                continue;
            }
            TWINS.badArgument("read: " + text, typed(text), made -> made.read());
        }
        for (int length : new int[] {8, 9, 16}) {
            read(whole.substring(0, length), length < 16 ? 1 : 2);
        }
        TWINS.badArgument("read: an error behind a whole text", typed("x=0%1!"), made -> made.read());
        TWINS.badArgument("read: an error ahead of a whole text", typed("!x=0%1"), made -> made.read());
        TWINS.badArgument("read: an error, and there are ten", made -> {
            Made.putElevenths(made, 10);
            Made.type(made, "x=0%");
        }, made -> made.read());
        SharedModuli made = Twins.made(typed("x=0%"));
        CHECK.badArgument("read: not whole", () -> made.read());
        made.append('5');
        CHECK.due("read: the buffer stays, so it can be ended", made.read(), 1);
    }

    private static void addsAsAddDoes() {
        String[] texts = {"x=1%2", "6x=3%9;2x=1%4;x=0%1", "x=0%2;x=1%2;4x=4%8", "999x=998%997;5x=999%25"};
        int[][] parts = {{1, 1, 2}, {6, 3, 9, 2, 1, 4, 1, 0, 1}, {1, 0, 2, 1, 1, 2, 4, 4, 8}, {999, 998, 997, 5, 999, 25}};
        for (int k = 0; k < texts.length; k++) {
            SharedModuli read = read(texts[k], parts[k].length / 3);
            SharedModuli made = Made.with(parts[k]);
            CHECK.due("read as add: N", read.joined(0), made.joined(0));
            for (int number = 0; number < made.count(0); number++) {
                for (int what = 0; what <= 8; what++) {
                    CHECK.due("read as add: " + texts[k], read.condition(number, what), made.condition(number, what));
                }
            }
        }
    }

    private static SharedModuli readBehind(int before, String text, int due) {
        SharedModuli made = new SharedModuli();
        Made.putElevenths(made, before);
        Made.type(made, text);
        CHECK.due("read: " + text + " behind " + before, made.read(), due);
        CHECK.due("read: conditions behind " + before, made.count(0), before + due);
        CHECK.due("read: the buffer is clear behind " + before, made.clearBuffer(), 0);
        CHECK.due("read: one state more behind " + before, made.count(6), Math.min(before + 1, 6));
        return made;
    }

    /** "up to the first one for which it would throw an exception": there are 10 */
    private static void readUpToTen() {
        told(readBehind(7, "x=0%3;x=1%3", 2), 8, 1, 1, 3, 1);
        told(readBehind(8, "x=0%3;x=1%3", 2), 9, 1, 1, 3, 1);
        told(readBehind(9, "x=0%3;x=1%3", 1), 9, 1, 0, 3, 1);
        told(readBehind(10, "x=0%3;x=1%3", 0), 9, 1, 9, 11, 1);
        readBehind(0, "x=0%1;".repeat(9) + "x=0%1", 10);
        readBehind(1, "x=0%1;".repeat(9) + "x=0%1", 9);
        readBehind(1, "x=0%1;".repeat(8) + "x=0%1", 9);
        readBehind(10, "x=0%1;".repeat(9) + "x=0%1", 0);
    }

    /** "up to the first one for which it would throw an exception": N would be too great */
    private static void readUpToTheGreatestN() {
        CHECK.due("read: N just inside", read(Made.text(Made.INSIDE), 6).joined(0), Made.INSIDE_N);
        CHECK.due("read: N just outside", read(Made.text(Made.OUTSIDE), 5).joined(0), Made.OUTSIDE_N_OF_FIVE);
        SharedModuli made = read(Made.text(Made.OUTSIDE) + ";x=0%1", 5);
        CHECK.due("read: none behind the refused one", made.count(0), 5);
        Made.type(made, "x=0%1;x=0%37;x=0%1");
        CHECK.due("read: up to the refused one", made.read(), 1);
        Made.type(made, "2x=1%74;857x=0%857;x=1%857");
        CHECK.due("read: what does not ask for more", made.read(), 3);
        CHECK.due("read: N", made.joined(0), -1);
        Made.type(made, "x=0%31");
        CHECK.due("read: a tenth", made.read(), 1);
    }

    /** "Undoable, as one call, also if none is added." */
    private static void readOfNone() {
        SharedModuli made = new SharedModuli();
        Made.putModuli(made, Made.OUTSIDE, 5);
        long before = made.digest();
        Made.type(made, "x=0%37;x=0%1");
        CHECK.due("read: none", made.read(), 0);
        CHECK.due("read: saved all the same", made.count(6), 6);
        CHECK.due("read: the buffer is clear", made.clearBuffer(), 0);
        CHECK.due("read: undone", made.undo(), 5);
        CHECK.due("read: as before", made.digest(), before);
        Made.type(made, "x=1%2;x=2%3;x=4%5");
        CHECK.due("read: three as one call", made.read(), 3);
        CHECK.due("read: one state more", made.count(6), 6);
        CHECK.due("read: three undone as one", made.undo(), 5);
        CHECK.due("read: as before the three", made.digest(), before);
    }
}
