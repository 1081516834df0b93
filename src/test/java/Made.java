/** Objects as the tests want them. */
final class Made {
    /** They come to INSIDE_N, the greatest N up to 10 to the 15th that ten conditions can come to. */
    static final int[] INSIDE = {557, 349, 979, 332, 931, 17};
    static final long INSIDE_N = 999999999999308L;

    /** They come to 1000000000006067, the least N above 10 to the 15th. */
    static final int[] OUTSIDE = {857, 769, 277, 157, 943, 37};

    /** N without the last one of INSIDE. */
    static final long INSIDE_N_OF_FIVE = INSIDE_N / 17;

    /** N without the last one of OUTSIDE. */
    static final long OUTSIDE_N_OF_FIVE = 1000000000006067L / 37;

    private Made() {
    }

    /** With a condition for each three of the parts: its factor, remainder and modulus. */
    static SharedModuli with(int... parts) {
        SharedModuli made = new SharedModuli();
        put(made, parts);
        return made;
    }

    static void put(SharedModuli into, int... parts) {
        for (int k = 0; k + 2 < parts.length; k += 3) {
            into.add(parts[k], parts[k + 1], parts[k + 2]);
        }
    }

    /** Adds x=0 by each of the first so many moduli. */
    static void putModuli(SharedModuli into, int[] moduli, int many) {
        for (int k = 0; k < many; k++) {
            into.add(1, 0, moduli[k]);
        }
    }

    /** Adds x=0%11, x=1%11 and so on. */
    static void putElevenths(SharedModuli into, int many) {
        for (int k = 0; k < many; k++) {
            into.add(1, k, 11);
        }
    }

    /** Appends it to what the buffer has. */
    static void type(SharedModuli into, String text) {
        for (int k = 0; k < text.length(); k++) {
            into.append(text.charAt(k));
        }
    }

    /** The text of x=0 by each of the moduli. */
    static String text(int... moduli) {
        StringBuilder text = new StringBuilder();
        for (int k = 0; k < moduli.length; k++) {
            text.append(k == 0 ? "x=0%" : ";x=0%").append(moduli[k]);
        }
        return text.toString();
    }
}
