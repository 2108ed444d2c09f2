/** Promises 4 to 8: facts, and the branch that is taken. */
public final class TrialTest {
    private static final Due due = new Due("TrialTest");
    private static final int[] NO_FACTS = {-1, 10, 11, 32, 256, Integer.MIN_VALUE, Integer.MAX_VALUE};

    public static void main(String[] args) {
        due.test("Promise 4, facts 0 .. 9", TrialTest::factNames);
        due.test("Promise 4, below 0 and above 9 answers false", TrialTest::noFacts);
        due.test("Promise 4, a fact that is not such changes nothing", TrialTest::noFactChangesNothing);
        due.test("Promise 4, a fact is known as v, whatever v is", TrialTest::factValues);
        due.test("Promise 4, a fact told again is known as the new v", TrialTest::factAgain);
        due.test("Promise 4, each fact has a value of its own", TrialTest::factsApart);
        due.test("Promise 5, answers how many were known", TrialTest::clears);
        due.test("Promise 5, no fact is known then", TrialTest::noneIsKnownThen);
        due.test("Promises 6 to 8, no branches", TrialTest::noBranches);
        due.test("Promises 6 to 8, a branch without conditions fits", TrialTest::noConditions);
        due.test("Promises 6 to 8, branch 0, code 0, fact 0 are no NONE", TrialTest::zeros);
        due.test("Promises 6 to 8, one below V, V, one above it", TrialTest::aroundV);
        due.test("Promises 6 to 8, V at 0 and 999999, facts as far as can be", TrialTest::farValues);
        due.test("Promises 6 to 8, branches in their order, the first that fits", TrialTest::branchOrder);
        due.test("Promises 6 to 8, none fits", TrialTest::noneFits);
        due.test("Promises 6 to 8, conditions up to the first that does not hold", TrialTest::conditionOrder);
        due.test("Promises 6 to 8, an open condition ends the trial", TrialTest::openEnds);
        due.test("Promises 6 to 8, behind a branch that fits nothing is asked", TrialTest::fitsAsksNothing);
        due.test("Promises 6 to 8, the 29th branch and the 30th", TrialTest::lastBranch);
        due.test("Promises 6 to 8, each branch has its own conditions", TrialTest::conditionsApart);
        due.test("Promises 6 to 8, a general code gives way to the first that fits", TrialTest::generalGivesWay);
        due.test("Promises 6 to 8, a general code stays when none fits behind it", TrialTest::generalStays);
        due.test("Promises 6 to 8, a general code as the last branch", TrialTest::generalIsLast);
        due.test("Promises 6 to 8, only branches behind a general one", TrialTest::onlyBehind);
        due.test("Promises 6 to 8, only branches of the same group", TrialTest::onlyItsGroup);
        due.test("Promises 6 to 8, only codes that are not general", TrialTest::onlySpecialCodes);
        due.test("Promises 6 to 8, a branch behind a general one asks", TrialTest::specialAsks);
        due.test("Promises 6 to 8, a code that is not general is taken at once", TrialTest::notGeneral);
        due.test("Promises 6 to 8, they change nothing", TrialTest::changeNothing);
        due.end();
    }

    private static void is(CodeRules x, int code, int taken, int asks) {
        due.is("code()", x.code(), code);
        due.is("taken()", x.taken(), taken);
        due.is("asks()", x.asks(), asks);
    }

    private static void factNames() {
        for (int name = 0; name <= 9; name++) {
            CodeRules x = Due.told("code 1 0 when " + name + " = 5");
            is(x, -2, -2, name);
            due.is("fact(" + name + ", 5)", x.fact(name, 5), true);
            is(x, 1, 0, -1);
            due.is("clearFacts()", x.clearFacts(), 1);
        }
    }

    private static void noFacts() {
        CodeRules x = new CodeRules();
        for (int name : NO_FACTS) {
            due.is("fact(" + name + ", 0)", x.fact(name, 0), false);
        }
        due.is("clearFacts()", x.clearFacts(), 0);
    }

    private static void noFactChangesNothing() {
        for (int name : NO_FACTS) {
            Past.stays(due, Past::rich, x -> due.is("fact(" + name + ", 7)", x.fact(name, 7), false));
        }
        CodeRules x = new CodeRules();
        for (int name = 0; name <= 9; name++) {
            x.fact(name, name);
        }
        x.fact(-1, 50);
        x.fact(10, 50);
        for (int name = 0; name <= 9; name++) {
            due.is("read()", Due.read(x, "code 1 0 when " + name + " = " + name), 1);
            due.is("code(), fact " + name + " is still as it was", x.code(), 1);
        }
        due.is("clearFacts()", x.clearFacts(), 10);
    }

    private static void factValues() {
        CodeRules x = Due.told("code 1 0 when 0 < 0 code 2 0 when 0 = 0 code 3 0 when 0 > 999999 code 4 0");
        int[] values = {Integer.MIN_VALUE, -1, 0, 1, 999999, 1000000, Integer.MAX_VALUE};
        int[] codes = {1, 1, 2, 4, 4, 3, 3};
        for (int i = 0; i < values.length; i++) {
            due.is("fact(0, " + values[i] + ")", x.fact(0, values[i]), true);
            due.is("code() at " + values[i], x.code(), codes[i]);
        }
    }

    private static void factAgain() {
        CodeRules x = Due.told("code 1 0 when 9 = 1");
        x.fact(9, 2);
        is(x, -1, -1, -1);
        due.is("fact(9, 1)", x.fact(9, 1), true);
        is(x, 1, 0, -1);
        due.is("clearFacts()", x.clearFacts(), 1);
    }

    private static void factsApart() {
        StringBuilder text = new StringBuilder("code 1 0");
        for (int name = 0; name <= 9; name++) {
            text.append(" when ").append(name).append(" = ").append(name + 20);
        }
        CodeRules x = Due.told(text.toString());
        for (int name = 0; name <= 9; name++) {
            is(x, -2, -2, name);
            x.fact(name, name + 20);
        }
        is(x, 1, 0, -1);
    }

    private static void clears() {
        CodeRules x = new CodeRules();
        due.is("clearFacts() of none", x.clearFacts(), 0);
        x.fact(0, 0);
        due.is("clearFacts() of one", x.clearFacts(), 1);
        due.is("clearFacts() again", x.clearFacts(), 0);
        x.fact(4, 1);
        x.fact(4, 2);
        due.is("clearFacts() of one told twice", x.clearFacts(), 1);
        for (int name = 0; name <= 9; name++) {
            x.fact(name, -1);
        }
        due.is("clearFacts() of all ten", x.clearFacts(), 10);
        due.is("clearFacts() again", x.clearFacts(), 0);
    }

    private static void noneIsKnownThen() {
        CodeRules x = new CodeRules();
        for (int name = 0; name <= 9; name++) {
            x.fact(name, 1);
        }
        x.clearFacts();
        for (int name = 0; name <= 9; name++) {
            due.is("read()", Due.read(x, "code 1 0 when " + name + " = 1"), 1);
            is(x, -2, -2, name);
        }
    }

    private static void noBranches() {
        is(new CodeRules(), -1, -1, -1);
        is(Due.told("general 1 mirror 1 2 map 1 1 1 1 name 1 a"), -1, -1, -1);
    }

    private static void noConditions() {
        is(Due.told("code 4 0"), 4, 0, -1);
        is(Due.told("code 999999 9 code 5 9"), 999999, 0, -1);
    }

    private static void zeros() {
        is(Due.told("code 0 0"), 0, 0, -1);
        CodeRules x = Due.told("code 0 0 when 0 = 0");
        is(x, -2, -2, 0);
        x.fact(0, 0);
        is(x, 0, 0, -1);
    }

    private static void aroundV() {
        holds("<", true, false, false);
        holds("=", false, true, false);
        holds(">", false, false, true);
    }

    private static void holds(String sign, boolean below, boolean same, boolean above) {
        CodeRules x = Due.told("code 7 0 when 3 " + sign + " 5");
        x.fact(3, 4);
        due.is("taken() at 4 " + sign + " 5", x.taken(), below ? 0 : -1);
        x.fact(3, 5);
        due.is("taken() at 5 " + sign + " 5", x.taken(), same ? 0 : -1);
        x.fact(3, 6);
        due.is("taken() at 6 " + sign + " 5", x.taken(), above ? 0 : -1);
        // The least value less V is beyond an int.
        x.fact(3, Integer.MIN_VALUE);
        due.is("taken() at the least " + sign + " 5", x.taken(), below ? 0 : -1);
        x.fact(3, Integer.MAX_VALUE);
        due.is("taken() at the greatest " + sign + " 5", x.taken(), above ? 0 : -1);
    }

    private static void farValues() {
        String[] bounds = {"0", "999999"};
        for (String bound : bounds) {
            CodeRules x = Due.told("code 1 0 when 0 < " + bound + " code 2 0 when 0 = " + bound + " code 3 0 when 0 > " + bound);
            int v = Integer.parseInt(bound);
            int[] values = {Integer.MIN_VALUE, Integer.MIN_VALUE + v, v - 1, v, v + 1, Integer.MAX_VALUE};
            int[] codes = {1, 1, 1, 2, 3, 3};
            for (int i = 0; i < values.length; i++) {
                x.fact(0, values[i]);
                is(x, codes[i], codes[i] - 1, -1);
            }
        }
    }

    private static void branchOrder() {
        CodeRules x = Due.told("code 7 0 when 1 = 1 code 8 0 when 1 > 0 when 1 < 3 code 9 0");
        x.fact(1, 1);
        is(x, 7, 0, -1);
        x.fact(1, 2);
        is(x, 8, 1, -1);
        x.fact(1, 3);
        is(x, 9, 2, -1);
    }

    private static void noneFits() {
        CodeRules x = Due.told("code 7 0 when 1 = 1 code 8 0 when 1 = 2");
        x.fact(1, 3);
        is(x, -1, -1, -1);
    }

    private static void conditionOrder() {
        CodeRules x = Due.told("code 1 0 when 3 = 1 when 2 = 1 when 0 = 0 code 2 0");
        is(x, -2, -2, 3);
        x.fact(2, 0);
        is(x, -2, -2, 3);
        x.fact(3, 1);
        is(x, 2, 1, -1);
        x.fact(2, 1);
        is(x, -2, -2, 0);
        x.fact(0, 0);
        is(x, 1, 0, -1);
        x.clearFacts();
        x.fact(3, 0);
        is(x, 2, 1, -1);
        x.fact(3, 1);
        x.fact(2, 1);
        x.fact(0, 1);
        is(x, 2, 1, -1);
    }

    private static void openEnds() {
        CodeRules x = Due.told("code 1 0 when 4 = 1 code 2 0 when 5 = 1 code 3 0");
        is(x, -2, -2, 4);
        x.fact(5, 1);
        is(x, -2, -2, 4);
        x.fact(4, 0);
        is(x, 2, 1, -1);
        x.clearFacts();
        x.fact(4, 0);
        is(x, -2, -2, 5);
    }

    private static void fitsAsksNothing() {
        CodeRules x = Due.told("code 1 0 code 2 0 when 5 = 1");
        is(x, 1, 0, -1);
    }

    private static void lastBranch() {
        is(Due.told(Due.row(29, "code 1 0") + "code 77 0"), 1, 0, -1);
        is(Due.told("general 1\n" + Due.row(28, "code 1 0") + "code 77 0"), 77, 28, -1);
        is(Due.told("general 1\n" + Due.row(29, "code 1 0") + "code 77 0"), 77, 29, -1);
        CodeRules x = Due.told("general 1\n" + Due.row(29, "code 1 0") + "code 77 0 when 3 > 4 when 5 < 6");
        is(x, -2, -2, 3);
        x.fact(3, 5);
        is(x, -2, -2, 5);
        x.fact(5, 5);
        is(x, 77, 29, -1);
        x.fact(5, 6);
        is(x, 1, 0, -1);
    }

    private static void conditionsApart() {
        CodeRules x = Due.told(Due.row(20, "code # 0 when 1 = 2") + "code 77 0 when 1 = 3 when 2 = 4");
        x.fact(1, 3);
        is(x, -2, -2, 2);
        x.fact(2, 4);
        is(x, 77, 20, -1);
        x.fact(2, 5);
        is(x, -1, -1, -1);
    }

    private static void generalGivesWay() {
        CodeRules x = Due.told("general 10 code 10 4 code 12 4 when 0 = 1 code 13 4 when 0 = 2 code 14 4 when 0 > 0");
        x.fact(0, 1);
        is(x, 12, 1, -1);
        x.fact(0, 2);
        is(x, 13, 2, -1);
        x.fact(0, 3);
        is(x, 14, 3, -1);
    }

    private static void generalStays() {
        CodeRules x = Due.told("code 10 4 code 12 4 when 0 = 1 general 10");
        x.fact(0, 2);
        is(x, 10, 0, -1);
    }

    private static void generalIsLast() {
        is(Due.told("general 10 code 10 4"), 10, 0, -1);
        CodeRules x = Due.told("general 10 code 12 4 when 0 = 1 code 10 4");
        x.fact(0, 2);
        is(x, 10, 1, -1);
        is(Due.told("general 0 code 0 0 code 5 0"), 5, 1, -1);
    }

    private static void onlyBehind() {
        CodeRules x = Due.told("general 10 code 9 4 when 0 = 1 code 10 4 code 12 4 when 0 = 3");
        x.fact(0, 2);
        is(x, 10, 1, -1);
        x.fact(0, 3);
        is(x, 12, 2, -1);
        x.fact(0, 1);
        is(x, 9, 0, -1);
    }

    private static void onlyItsGroup() {
        is(Due.told("general 10 code 10 4 code 11 3 code 12 5 code 13 4"), 13, 3, -1);
        is(Due.told("general 10 code 10 4 code 11 3 code 12 5"), 10, 0, -1);
        is(Due.told("general 10 code 10 0 code 11 9 code 12 0"), 12, 2, -1);
        is(Due.told("general 10 code 10 9 code 11 0 code 12 9"), 12, 2, -1);
        // A branch of another group is not tried, and so asks nothing.
        is(Due.told("general 10 code 10 4 code 11 5 when 1 = 1"), 10, 0, -1);
    }

    private static void onlySpecialCodes() {
        is(Due.told("general 10 general 11 code 10 4 code 11 4 code 10 4 code 12 4"), 12, 3, -1);
        is(Due.told("general 10 general 11 code 10 4 code 11 4 code 10 4"), 10, 0, -1);
        // A branch to a general code is not tried, and so asks nothing.
        is(Due.told("general 10 general 11 code 10 4 code 11 4 when 2 = 1 code 10 4 when 3 = 1"), 10, 0, -1);
    }

    private static void specialAsks() {
        CodeRules x = Due.told("general 10 code 10 4 code 12 4 when 6 = 1 when 7 = 1 code 13 4");
        is(x, -2, -2, 6);
        x.fact(6, 0);
        is(x, 13, 2, -1);
        x.fact(6, 1);
        is(x, -2, -2, 7);
        x.fact(7, 1);
        is(x, 12, 1, -1);
        x = Due.told("general 10 code 10 4 code 12 4 when 0 = 1");
        is(x, -2, -2, 0);
        // One that fits stands before the one that would ask.
        is(Due.told("general 10 code 10 4 code 12 4 code 13 4 when 6 = 1"), 12, 1, -1);
    }

    private static void notGeneral() {
        is(Due.told("general 11 code 10 4 code 12 4 when 6 = 1"), 10, 0, -1);
        is(Due.told("general 11 code 10 4 code 12 4"), 10, 0, -1);
    }

    private static void changeNothing() {
        Past.stays(due, Past::rich, x -> is(x, 6, 1, -1));
    }
}
