/** Counts the answers of one test that are not the ones that are due. */
final class Due {
    private final String test;
    private int wrong;

    Due(String test) {
        this.test = test;
    }

    void is(String call, int got, int want) {
        if (got != want) {
            wrong++;
            System.out.println(test + ": " + call + " answered " + got + ", due is " + want);
        }
    }

    void is(String call, boolean got, boolean want) {
        is(call, got ? 1 : 0, want ? 1 : 0);
    }

    void end() {
        if (wrong != 0) {
            System.out.println(test + ": " + wrong + " answers are not as due");
            System.exit(1);
        }
    }

    /** Puts a text behind what is there. */
    static void say(CodeRules x, String text) {
        for (int i = 0; i < text.length(); i++) {
            x.unit(text.charAt(i));
        }
    }

    static int read(CodeRules x, String text) {
        say(x, text);
        return x.read();
    }

    static CodeRules told(String text) {
        CodeRules x = new CodeRules();
        if (read(x, text) < 0) {
            throw new IllegalStateException("a test's text is refused: " + text);
        }
        return x;
    }

    /** A row of sentences, in each of which # is its number from 0 on and @ the letter of that number. */
    static String row(int count, String sentence) {
        StringBuilder all = new StringBuilder();
        for (int i = 0; i < count; i++) {
            String number = Integer.toString(i);
            String letter = Character.toString((char) ('a' + i % 26));
            all.append(sentence.replace("#", number).replace("@", letter)).append('\n');
        }
        return all.toString();
    }
}
