/** The cases of one test class: every answer that is not the one due is printed with its promise and case. */
final class Due {
    // Long runs of a broken program would tell millions.
    private static final int MOST_TOLD = 100;

    private final String test;
    private String at = "";
    private int wrong;

    Due(String test) {
        this.test = test;
    }

    /** A case, under the name of its promise and of what the document says there. */
    void test(String promiseAndCase, Runnable body) {
        at = promiseAndCase;
        try {
            body.run();
        } catch (RuntimeException thrown) {
            tell("threw " + thrown);
        }
    }

    void is(String call, int got, int want) {
        if (got != want) {
            tell(call + " answered " + got + ", due is " + want);
        }
    }

    void is(String call, boolean got, boolean want) {
        is(call, got ? 1 : 0, want ? 1 : 0);
    }

    /** What a new object answers to a text. */
    void reads(String text, int want) {
        is("read() of '" + text + "'", read(new CodeRules(), text), want);
    }

    private void tell(String fault) {
        wrong++;
        if (wrong <= MOST_TOLD) {
            System.out.println(test + ": " + at + ": " + fault);
        }
    }

    void end() {
        if (wrong != 0) {
            System.out.println(test + ": " + wrong + " answers are not as due");
            System.exit(1);
        }
    }

    /** Puts a text behind what is there. */
    static void say(CodeRules x, String text) {
        for (int i = 0; i < text.length(); i++) {
            x.unit(text.charAt(i));
        }
    }

    static int read(CodeRules x, String text) {
        say(x, text);
        return x.read();
    }

    static CodeRules told(String text) {
        CodeRules x = new CodeRules();
        int answer = read(x, text);
        if (answer < 0) {
            throw new IllegalStateException("read() answered " + answer + " to '" + text + "'");
        }
        return x;
    }

    /** A row of sentences, in each of which # is its number from 0 on and @ the letter of that number. */
    static String row(int count, String sentence) {
        StringBuilder all = new StringBuilder();
        for (int i = 0; i < count; i++) {
            String number = Integer.toString(i);
            String letter = Character.toString((char) ('a' + i % 26));
            all.append(sentence.replace("#", number).replace("@", letter)).append('\n');
        }
        return all.toString();
    }
}
