/** All promises at once: long runs of calls, right and wrong ones, answered by CodeRules and by Model. */
public final class ModelTest {
    private static final int RUNS = 6000;
    private static final int CALLS = 512;
    // Past its 512 calls the document leaves an object free. These runs are for the limits that can
    // only be met there, 900 bytes and 60 conditions: this program keeps to them too.
    private static final int LONG_RUNS = 400;
    private static final int LONG_CALLS = 1800;
    private static final int[] FAR = {Integer.MIN_VALUE, Integer.MAX_VALUE, -1, 1000000, 999999, 255, 256, -1000};
    private static final String[] WORDS = {"code", "general", "mirror", "map", "name", "when", "<", "=", ">", "x", "oil",
        "1234567", "00003", "abcdefgh", "abcdefghi", "A", "9", "10", "\0", "\t", "\u00ff", "000000", "999999"};

    private static final Due due = new Due("ModelTest");
    private static long state = 20261115L;

    public static void main(String[] args) {
        due.test("All promises, within 512 calls", () -> runs(RUNS, CALLS));
        due.test("All promises, beyond 512 calls", () -> runs(LONG_RUNS, LONG_CALLS));
        due.end();
    }

    private static void runs(int count, int mostCalls) {
        for (int run = 0; run < count; run++) {
            CodeRules x = new CodeRules();
            Model model = new Model();
            int calls = 0;
            while (calls < mostCalls) {
                calls += act(x, model, mostCalls - calls);
            }
        }
    }

    /** Answers how many calls were made, which are not more than there is room for. */
    private static int act(CodeRules x, Model model, int room) {
        int kind = below(60);
        if (kind < 5) {
            String text = below(3) == 0 ? crowd() : mixture();
            if (text.length() + 3 <= room) {
                return tell(x, model, text);
            }
        }
        if (kind == 5 && room >= 12) {
            return fill(x, model);
        }
        ask(x, model, below(20));
        return 1;
    }

    /** The same numbers in every run of the test. */
    private static int below(int bound) {
        state = state * 6364136223846793005L + 1442695040888963407L;
        return (int) ((state >>> 33) % bound);
    }

    private static int about(int bound) {
        int kind = below(24);
        return kind == 0 ? FAR[below(FAR.length)] : kind == 1 ? bound : below(bound);
    }

    private static int tell(CodeRules x, Model model, String text) {
        for (int i = 0; i < text.length(); i++) {
            due.is("unit", x.unit(text.charAt(i)), model.unit(text.charAt(i)));
        }
        ask(x, model, 10);
        ask(x, model, 11);
        if (below(10) != 0) {
            due.is("read() of '" + text + "'", x.read(), model.read());
        }
        return text.length() + 3;
    }

    private static String mixture() {
        StringBuilder text = new StringBuilder(below(4) == 0 ? word() + " " : "");
        int sentences = below(14);
        for (int i = 0; i < sentences; i++) {
            text.append(below(60) == 0 ? WORDS[below(WORDS.length)] : sentence(below(7))).append(below(2) == 0 ? ' ' : '\n');
        }
        int cut = below(8) == 0 ? below(text.length() + 1) : text.length();
        return text.substring(0, cut);
    }

    /** One kind of sentence about as often as there may be. */
    private static String crowd() {
        int kind = below(7);
        int count = (kind < 3 ? 26 : 13) + below(9);
        StringBuilder text = new StringBuilder(kind == 6 ? "code 1 1 " : "");
        for (int i = 0; i < count; i++) {
            text.append(crowdMember(kind, i));
        }
        return text.toString();
    }

    private static String crowdMember(int kind, int i) {
        switch (kind) {
            case 0: return "code " + below(8) + " " + below(3) + " ";
            case 3: return "mirror " + (i + 10) + " " + (i + 50) + " ";
            case 6: return condition() + condition();
            default: return sentence(kind);
        }
    }

    private static String sentence(int kind) {
        switch (kind) {
            case 3: return "mirror " + below(20) + " " + below(20) + " ";
            case 4: return "map " + below(5) + " " + about(10) % 11 + " " + below(9) + " " + below(99) + " ";
            case 5: return "name " + below(30) + " " + word() + " ";
            case 6: return "general " + below(8) + " ";
            default: return "code " + below(8) + " " + below(3) + " " + (below(2) == 0 ? condition() : "") + (below(3) == 0 ? condition() : "");
        }
    }

    private static String condition() {
        return "when " + below(4) + " " + "<=>".charAt(below(3)) + " " + below(4) + " ";
    }

    private static String word() {
        StringBuilder word = new StringBuilder();
        int length = 1 + below(8);
        for (int i = 0; i < length; i++) {
            word.append((char) ('a' + below(4)));
        }
        return word.toString();
    }

    /** Single calls seldom fill a place. */
    private static int fill(CodeRules x, Model model) {
        int place = about(8);
        for (int i = 0; i < 12; i++) {
            due.is("put", x.put(place), model.put(place));
        }
        return 12;
    }

    private static void ask(CodeRules x, Model model, int call) {
        int a = about(10);
        int b = about(12);
        int c = about(10);
        switch (call) {
            case 0: due.is("fact", x.fact(a, b % 5), model.fact(a, b % 5)); break;
            case 1:
                if (below(6) == 0) {
                    due.is("clearFacts", x.clearFacts(), model.clearFacts());
                }
                break;
            case 2: due.is("code", x.code(), model.code()); break;
            case 3: due.is("taken", x.taken(), model.taken()); break;
            case 4: due.is("asks", x.asks(), model.asks()); break;
            case 5: due.is("general", x.general(a), model.general(a)); break;
            case 6: due.is("mirror", x.mirror(2 * b, true), model.mirror(2 * b, true)); break;
            case 7: due.is("mirror", x.mirror(b, false), model.mirror(b, false)); break;
            case 8: due.is("map", x.map(b % 6, c, a), model.map(b % 6, c, a)); break;
            case 9: due.is("map", x.map(a, c, b), model.map(a, c, b)); break;
            case 10: due.is("near", x.near(b), model.near(b)); break;
            case 11: due.is("edits", x.edits(b), model.edits(b)); break;
            case 12: due.is("needs", x.needs(a % 7, b), model.needs(a % 7, b)); break;
            case 13: due.is("paper", x.paper(a % 7, b), model.paper(a % 7, b)); break;
            case 14: due.is("lacks", x.lacks(a % 7, c % 4), model.lacks(a % 7, c % 4)); break;
            case 15:
                if (below(6) == 0) {
                    due.is("permit", x.permit(), model.permit());
                }
                break;
            case 16: due.is("allows", x.allows(a % 7, b, c), model.allows(a % 7, b, c)); break;
            case 17: due.is("check", x.check(a % 7, b), model.check(a % 7, b)); break;
            case 18: due.is("put", x.put(a), model.put(a)); break;
            default: due.is("history", x.history(a, b), model.history(a, b)); break;
        }
    }
}
