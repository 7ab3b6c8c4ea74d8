/** What the tests share: counts answers that are not the due ones, and makes objects from texts. */
final class Due {
    private static int wrong = 0;
    private static int asked = 0;
    private static int sentences = 0;
    private static String sentence = "";

    private Due() {
    }

    /** What is asked from here on stands for this sentence of the document. */
    static void sentence(String told) {
        sentences++;
        sentence = told;
    }

    static void is(String call, long got, long want) {
        asked++;
        if (got != want) {
            wrong++;
            String of = sentence.isEmpty() ? "" : "[" + sentence + "] ";
            System.out.println(of + call + " answered " + got + ", due is " + want);
        }
    }

    static int wrongOnes() {
        return wrong;
    }

    /** Ends the test: with exit code 1 if an answer was wrong. */
    static void end(String test) {
        String of = sentences == 0 ? "" : sentences + " sentences, ";
        System.out.println(test + ": " + of + asked + " answers, " + wrong + " wrong");
        if (wrong != 0 || asked == 0) {
            System.exit(1);
        }
    }

    static PuddleStates withText(String text) {
        PuddleStates puddles = new PuddleStates();
        write(puddles, text);
        return puddles;
    }

    /** Behind letters that may be there already. */
    static void write(PuddleStates puddles, String text) {
        int ahead = puddles.count(9);
        for (int i = 0; i < text.length(); i++) {
            is("write '" + text.charAt(i) + "' of " + text, puddles.write(text.charAt(i)), ahead + i + 1);
        }
    }

    static PuddleStates laid(String text) {
        PuddleStates puddles = withText(text);
        is("fault() of " + text, puddles.fault(), PuddleStates.NONE);
        int cells = puddles.lay();
        is("lay() of " + text, cells, puddles.count(0));
        if (cells < 0) {
            throw new IllegalStateException("no square for the test: " + text);
        }
        return puddles;
    }

    /** The drops of all cells, in their order, against those that are due. */
    static void drops(String when, PuddleStates puddles, int... want) {
        is(when + ": cells", puddles.count(0), want.length);
        for (int x = 0; x < want.length; x++) {
            is(when + ": drops of cell " + x, puddles.cell(x, 2), want[x]);
        }
    }
}
