/** Promise 1: a new object has nothing, and the constants are the document's. */
public final class NewObjectTest {
    private static final Due due = new Due("NewObjectTest");

    public static void main(String[] args) {
        due.test("The public face, the constants", NewObjectTest::constants);
        due.test("Promise 1, no sentences", () -> noSentences(new CodeRules()));
        due.test("Promise 1, no facts", () -> noFacts(new CodeRules()));
        due.test("Promise 1, no papers", () -> noPapers(new CodeRules()));
        due.test("Promise 1, no permits", () -> noPermits(new CodeRules()));
        due.test("Promise 1, no histories", () -> noHistories(new CodeRules()));
        due.test("Promise 1, an empty text", () -> emptyText(new CodeRules()));
        due.test("Promise 1, a new object beside a used one", NewObjectTest::besideAUsedOne);
        due.test("What it is, the 512th call is still answered", NewObjectTest::last);
        due.end();
    }

    private static void constants() {
        due.is("NONE", CodeRules.NONE, -1);
        due.is("OPEN", CodeRules.OPEN, -2);
    }

    private static void noSentences(CodeRules x) {
        due.is("code()", x.code(), -1);
        due.is("taken()", x.taken(), -1);
        due.is("asks()", x.asks(), -1);
        int[] codes = {0, 1, 5, 999999};
        for (int code : codes) {
            due.is("general(" + code + ")", x.general(code), false);
            due.is("mirror(" + code + ", false)", x.mirror(code, false), -1);
            due.is("mirror(" + code + ", true)", x.mirror(code, true), -1);
            due.is("map(" + code + ", 1, 999999)", x.map(code, 1, 999999), code);
        }
        Due.say(x, "a");
        due.is("near(0) of a", x.near(0), -1);
        due.is("edits(0) of a", x.edits(0), -1);
    }

    private static void noFacts(CodeRules x) {
        due.is("clearFacts()", x.clearFacts(), 0);
        for (int name = 0; name < 10; name++) {
            due.is("read()", Due.read(x, "code 1 1 when " + name + " = 0"), 1);
            due.is("asks()", x.asks(), name);
        }
    }

    private static void noPapers(CodeRules x) {
        for (int end = 0; end < 6; end++) {
            due.is("lacks(" + end + ", 0)", x.lacks(end, 0), -1);
            for (int paper = 0; paper < 10; paper++) {
                due.is("needs(" + end + ", " + paper + ")", x.needs(end, paper), true);
                due.is("lacks(" + end + ", " + paper + ")", x.lacks(end, paper), paper);
            }
        }
    }

    private static void noPermits(CodeRules x) {
        for (int permit = 0; permit < 6; permit++) {
            due.is("check(" + permit + ", 0)", x.check(permit, 0), -1);
            due.is("allows(" + permit + ", 0, 0)", x.allows(permit, 0, 0), false);
        }
        due.is("permit()", x.permit(), 0);
        due.is("check(0, 0)", x.check(0, 0), 0);
    }

    private static void noHistories(CodeRules x) {
        for (int place = 0; place < 8; place++) {
            due.is("history(" + place + ", 0)", x.history(place, 0), -1);
            due.is("history(" + place + ", 11)", x.history(place, 11), -1);
        }
    }

    private static void emptyText(CodeRules x) {
        due.is("near(0)", x.near(0), -1);
        due.is("read()", x.read(), 0);
    }

    /** All there is to be filled is filled in one object: none of it shows in one that is made then. */
    private static void besideAUsedOne() {
        CodeRules used = Past.rich();
        CodeRules x = new CodeRules();
        emptyText(x);
        noSentences(x);
        noHistories(x);
        x = new CodeRules();
        noPapers(x);
        noPermits(x);
        noFacts(new CodeRules());
        due.is("code() of the used one", used.code(), 6);
    }

    private static void last() {
        CodeRules x = new CodeRules();
        for (int call = 1; call <= 501; call++) {
            x.unit(32);
        }
        Due.say(x, "general 7");
        due.is("read() as the 511th call", x.read(), 1);
        due.is("general(7) as the 512th call", x.general(7), true);
    }
}
