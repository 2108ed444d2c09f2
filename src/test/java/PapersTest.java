/** Promises 14 to 16: papers that ends of waste need. */
public final class PapersTest {
    private static final Due due = new Due("PapersTest");
    private static final int[] NO_ENDS = {-1, 6, 7, 32, 256, Integer.MIN_VALUE, Integer.MAX_VALUE};
    private static final int[] NO_PAPERS = {-1, 10, 11, 32, 35, 64, Integer.MIN_VALUE, Integer.MAX_VALUE};

    public static void main(String[] args) {
        due.test("Promise 14, ends 0 .. 5 and papers 0 .. 9", PapersTest::allNeeds);
        due.test("Promise 14, ends and papers that are not such", PapersTest::wrongNeeds);
        due.test("Promise 14, it needs it already", PapersTest::needsAlready);
        due.test("Promise 14, it needs a paper already that is there", PapersTest::needsWhatIsThere);
        due.test("Promise 14, a refused call changes nothing", PapersTest::refusedNeeds);
        due.test("Promise 15, an end that needs none has all", PapersTest::needsNone);
        due.test("Promise 15, one below all, and all", PapersTest::allAreThere);
        due.test("Promise 15, a paper that is not needed", PapersTest::notNeeded);
        due.test("Promise 15, a paper that is there already", PapersTest::thereAlready);
        due.test("Promise 15, ends and papers that are not such", PapersTest::wrongPapers);
        due.test("Promise 15, a refused call changes nothing", PapersTest::refusedPapers);
        due.test("Promise 15, the paper is there for that end", PapersTest::endsApart);
        due.test("Promise 16, by numbers, whatever the order of needs", PapersTest::byNumbers);
        due.test("Promise 16, k below 0 and behind the last", PapersTest::noSuchK);
        due.test("Promise 16, without those that are there", PapersTest::withoutThose);
        due.test("Promise 16, no such end", PapersTest::noSuchEnd);
        due.test("Promise 16, it changes nothing", PapersTest::lacksChangesNothing);
        due.end();
    }

    private static String of(String call, int a, int b) {
        return call + "(" + a + ", " + b + ")";
    }

    private static void needs(CodeRules x, int end, int paper, boolean want) {
        due.is(of("needs", end, paper), x.needs(end, paper), want);
    }

    private static void paper(CodeRules x, int end, int paper, boolean want) {
        due.is(of("paper", end, paper), x.paper(end, paper), want);
    }

    private static void lacks(CodeRules x, int end, int... papers) {
        for (int k = 0; k < papers.length; k++) {
            due.is(of("lacks", end, k), x.lacks(end, k), papers[k]);
        }
        due.is(of("lacks", end, papers.length), x.lacks(end, papers.length), -1);
    }

    private static void allNeeds() {
        CodeRules x = new CodeRules();
        for (int end = 0; end <= 5; end++) {
            for (int paper = 0; paper <= 9; paper++) {
                needs(x, end, paper, true);
            }
        }
        for (int end = 0; end <= 5; end++) {
            lacks(x, end, 0, 1, 2, 3, 4, 5, 6, 7, 8, 9);
        }
    }

    private static void wrongNeeds() {
        CodeRules x = new CodeRules();
        for (int end : NO_ENDS) {
            needs(x, end, 0, false);
            needs(x, end, 9, false);
        }
        for (int paper : NO_PAPERS) {
            needs(x, 0, paper, false);
            needs(x, 5, paper, false);
        }
        for (int end = 0; end <= 5; end++) {
            lacks(x, end);
        }
    }

    private static void needsAlready() {
        CodeRules x = new CodeRules();
        for (int end = 0; end <= 5; end++) {
            needs(x, end, 9 - end, true);
            needs(x, end, 9 - end, false);
            lacks(x, end, 9 - end);
        }
    }

    private static void needsWhatIsThere() {
        CodeRules x = new CodeRules();
        needs(x, 2, 3, true);
        paper(x, 2, 3, true);
        needs(x, 2, 3, false);
        lacks(x, 2);
        // There already, but not yet needed.
        paper(x, 2, 4, true);
        needs(x, 2, 4, true);
        needs(x, 2, 4, false);
        lacks(x, 2);
    }

    private static void refusedNeeds() {
        for (int end : NO_ENDS) {
            Past.stays(due, Past::rich, x -> needs(x, end, 1, false));
        }
        for (int paper : NO_PAPERS) {
            Past.stays(due, Past::rich, x -> needs(x, 1, paper, false));
        }
        Past.stays(due, Past::rich, x -> {
            needs(x, 0, 3, false);
            needs(x, 0, 9, false);
        });
    }

    private static void needsNone() {
        CodeRules x = new CodeRules();
        for (int end = 0; end <= 5; end++) {
            paper(x, end, end, true);
            lacks(x, end);
        }
    }

    private static void allAreThere() {
        CodeRules x = new CodeRules();
        needs(x, 5, 0, true);
        needs(x, 5, 9, true);
        needs(x, 5, 4, true);
        paper(x, 5, 9, false);
        paper(x, 5, 0, false);
        paper(x, 5, 4, true);
        lacks(x, 5);
        needs(x, 5, 6, true);
        paper(x, 5, 4, false);
        lacks(x, 5, 6);
        paper(x, 5, 6, true);
        x = new CodeRules();
        for (int paper = 0; paper <= 9; paper++) {
            needs(x, 0, paper, true);
        }
        for (int paper = 0; paper <= 9; paper++) {
            paper(x, 0, paper, paper == 9);
        }
    }

    private static void notNeeded() {
        CodeRules x = new CodeRules();
        needs(x, 1, 2, true);
        paper(x, 1, 3, false);
        lacks(x, 1, 2);
        paper(x, 1, 2, true);
        paper(x, 1, 8, true);
    }

    private static void thereAlready() {
        CodeRules x = new CodeRules();
        needs(x, 1, 2, true);
        needs(x, 1, 3, true);
        paper(x, 1, 2, false);
        paper(x, 1, 2, false);
        lacks(x, 1, 3);
        paper(x, 1, 3, true);
        paper(x, 1, 3, true);
        lacks(x, 1);
    }

    private static void wrongPapers() {
        CodeRules x = new CodeRules();
        for (int end : NO_ENDS) {
            paper(x, end, 0, false);
            paper(x, end, 9, false);
        }
        for (int paper : NO_PAPERS) {
            paper(x, 0, paper, false);
            paper(x, 5, paper, false);
        }
        for (int end = 0; end <= 5; end++) {
            for (int paper = 0; paper <= 9; paper++) {
                x.needs(end, paper);
            }
            lacks(x, end, 0, 1, 2, 3, 4, 5, 6, 7, 8, 9);
        }
    }

    private static void refusedPapers() {
        for (int end : NO_ENDS) {
            Past.stays(due, Past::rich, x -> paper(x, end, 9, false));
        }
        for (int paper : NO_PAPERS) {
            Past.stays(due, Past::rich, x -> paper(x, 0, paper, false));
        }
    }

    private static void endsApart() {
        CodeRules x = new CodeRules();
        needs(x, 0, 1, true);
        needs(x, 1, 1, true);
        paper(x, 0, 1, true);
        lacks(x, 0);
        lacks(x, 1, 1);
        paper(x, 1, 1, true);
        lacks(x, 1);
    }

    private static void byNumbers() {
        CodeRules x = new CodeRules();
        needs(x, 3, 7, true);
        needs(x, 3, 0, true);
        needs(x, 3, 9, true);
        needs(x, 3, 3, true);
        lacks(x, 3, 0, 3, 7, 9);
    }

    private static void noSuchK() {
        CodeRules x = new CodeRules();
        needs(x, 0, 4, true);
        int[] none = {-1, 1, 2, 10, Integer.MIN_VALUE, Integer.MAX_VALUE};
        due.is("lacks(0, 0)", x.lacks(0, 0), 4);
        for (int k : none) {
            due.is(of("lacks", 0, k), x.lacks(0, k), -1);
        }
        due.is("lacks(1, 0) of an end that needs none", x.lacks(1, 0), -1);
        due.is("lacks(1, -1)", x.lacks(1, -1), -1);
    }

    private static void withoutThose() {
        CodeRules x = new CodeRules();
        for (int paper = 0; paper <= 9; paper += 3) {
            needs(x, 4, paper, true);
        }
        lacks(x, 4, 0, 3, 6, 9);
        paper(x, 4, 3, false);
        lacks(x, 4, 0, 6, 9);
        paper(x, 4, 0, false);
        lacks(x, 4, 6, 9);
        paper(x, 4, 9, false);
        lacks(x, 4, 6);
        paper(x, 4, 6, true);
        lacks(x, 4);
    }

    private static void noSuchEnd() {
        CodeRules x = new CodeRules();
        for (int end = 0; end <= 5; end++) {
            needs(x, end, end, true);
        }
        for (int end : NO_ENDS) {
            due.is(of("lacks", end, 0), x.lacks(end, 0), -1);
        }
        due.is("lacks(0, 0)", x.lacks(0, 0), 0);
        due.is("lacks(5, 0)", x.lacks(5, 0), 5);
    }

    private static void lacksChangesNothing() {
        Past.stays(due, Past::rich, x -> {
            lacks(x, 0, 9);
            lacks(x, 5, 0);
            lacks(x, 1);
            for (int end : NO_ENDS) {
                x.lacks(end, 0);
                x.lacks(0, end);
            }
        });
    }
}
