/** Counts and prints the calls whose answer is not the one that is due. */
final class Due {
    private int wrong = 0;
    private String sentence = "";

    /** The sentence of the document that the rows from here on are a test of. */
    void of(String told) {
        sentence = told + ": ";
    }

    void is(String call, long got, long want) {
        if (got != want) {
            wrong++;
            System.out.println(sentence + call + " answered " + got + ", due is " + want);
        }
    }

    void end() {
        if (wrong != 0) {
            System.out.println(wrong + " answers are not as due");
            System.exit(1);
        }
    }

    static MulesRemember withText(String text) {
        MulesRemember x = new MulesRemember();
        rewrite(x, text);
        return x;
    }

    static MulesRemember withTreaty(String text) {
        MulesRemember x = withText(text);
        x.treaty();
        return x;
    }

    static void rewrite(MulesRemember x, String text) {
        x.wipe();
        write(x, text);
    }

    static void write(MulesRemember x, String text) {
        for (char letter : text.toCharArray()) {
            x.write(letter);
        }
    }

    static void pauses(MulesRemember x, int times) {
        for (int i = 0; i < times; i++) {
            x.pause();
        }
    }
}
