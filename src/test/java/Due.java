/** Holds answers against those that are due, and counts what is wrong. */
final class Due {
    private final String test;
    private String sentence = "";
    private int asked;
    private int wrong;

    Due(String test) {
        this.test = test;
    }

    /** The sentence of the document that the next answers hold to (DocTest looks whether it stands there). */
    void says(String sentence) {
        this.sentence = " [" + sentence + "]";
    }

    void is(String call, long got, long want) {
        asked++;
        if (got == want) return;
        wrong++;
        System.out.println(test + ": " + call + " answered " + got + ", due is " + want + sentence);
    }

    /** Prints the sum and ends with 1 if an answer was wrong. */
    void end() {
        System.out.println(test + ": " + asked + " answers, " + wrong + " wrong");
        if (wrong != 0 || asked == 0) System.exit(1);
    }

    /** Puts a text on THE TAPE, which must be empty. */
    static void write(RockTugs sky, String text) {
        byte[] bytes = new byte[(text.length() + 11) / 12 * 12];
        for (int i = 0; i < text.length(); i++) bytes[i] = (byte) text.charAt(i);
        for (int i = 0; i < bytes.length; i += 12) sky.feed(four(bytes, i), four(bytes, i + 4), four(bytes, i + 8));
        sky.trim(text.length());
    }

    private static int four(byte[] bytes, int at) {
        int v = 0;
        for (int i = 0; i < 4; i++) v = v << 8 | bytes[at + i] & 255;
        return v;
    }

    /** Writes a PROGRAM: what that answers. */
    static int program(RockTugs sky, int number, String text) {
        write(sky, text);
        return sky.program(number);
    }

    /** A TUG at PLACE 0, 0 gets an order for PROGRAM 0, and the next DAY is that on which it comes. */
    static void order(RockTugs sky, int tug, String text) {
        program(sky, 0, text);
        int due = sky.send(tug, 0);
        for (int i = 0; i < 3000 && sky.count(11) < due; i++) sky.run(1);
    }
}
