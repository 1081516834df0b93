/** Objects as the tests want them. */
final class Made {
    private Made() {
    }

    /** With a condition for each three of the parts: its factor, remainder and modulus. */
    static SharedModuli with(int... parts) {
        SharedModuli made = new SharedModuli();
        for (int k = 0; k + 2 < parts.length; k += 3) {
            made.add(parts[k], parts[k + 1], parts[k + 2]);
        }
        return made;
    }
}
