/** Promises 4 to 8: facts, and the branch that is taken. */
public final class TrialTest {
    private static final Due due = new Due("TrialTest");

    public static void main(String[] args) {
        facts();
        operators();
        strictOperators();
        lastBranch();
        inTheirOrder();
        asksInOrder();
        generalGivesWay();
        generalStays();
        generalOnlyBehindAndOfItsGroup();
        specialAsks();
        notGeneralIsTakenAtOnce();
        due.end();
    }

    private static void is(CodeRules x, int code, int taken, int asks) {
        due.is("code()", x.code(), code);
        due.is("taken()", x.taken(), taken);
        due.is("asks()", x.asks(), asks);
    }

    private static void facts() {
        CodeRules x = new CodeRules();
        due.is("fact(-1, 0)", x.fact(-1, 0), false);
        due.is("fact(10, 0)", x.fact(10, 0), false);
        due.is("fact(min, 0)", x.fact(Integer.MIN_VALUE, 0), false);
        due.is("clearFacts() after refused ones", x.clearFacts(), 0);
        due.is("fact(0, -5)", x.fact(0, -5), true);
        due.is("fact(9, max)", x.fact(9, Integer.MAX_VALUE), true);
        due.is("fact(9, 1)", x.fact(9, 1), true);
        due.is("clearFacts()", x.clearFacts(), 2);
        due.is("clearFacts() again", x.clearFacts(), 0);
        due.is("read()", Due.read(x, "code 1 0 when 9 = 1"), 1);
        is(x, -2, -2, 9);
    }

    private static void operators() {
        CodeRules x = Due.told("code 1 0 when 0 < 5 code 2 0 when 0 = 5 code 3 0 when 0 > 5");
        int[] values = {Integer.MIN_VALUE, -1, 0, 4, 5, 6, Integer.MAX_VALUE};
        int[] codes = {1, 1, 1, 1, 2, 3, 3};
        for (int i = 0; i < values.length; i++) {
            x.fact(0, values[i]);
            is(x, codes[i], codes[i] - 1, -1);
        }
    }

    private static void strictOperators() {
        CodeRules x = Due.told("code 1 0 when 0 < 5 code 2 0 when 0 > 5");
        x.fact(0, 5);
        is(x, -1, -1, -1);
    }

    private static void lastBranch() {
        CodeRules x = Due.told(Due.row(29, "code # 0 when 1 = 2") + "code 77 0 when 1 = 3 when 2 = 4");
        x.fact(1, 3);
        is(x, -2, -2, 2);
        x.fact(2, 4);
        is(x, 77, 29, -1);
        x.fact(2, 5);
        is(x, -1, -1, -1);
    }

    private static void inTheirOrder() {
        CodeRules x = Due.told("code 7 0 when 1 = 1 code 8 0 when 1 > 0 when 1 < 3 code 9 0");
        x.fact(1, 1);
        is(x, 7, 0, -1);
        x.fact(1, 2);
        is(x, 8, 1, -1);
        x.fact(1, 3);
        is(x, 9, 2, -1);
        x = Due.told("code 7 0 when 1 = 1");
        x.fact(1, 2);
        is(x, -1, -1, -1);
        x.clearFacts();
        is(x, -2, -2, 1);
    }

    private static void asksInOrder() {
        CodeRules x = Due.told("code 1 0 when 3 = 1 when 2 = 1 when 0 = 0 code 2 0");
        is(x, -2, -2, 3);
        x.fact(2, 0);
        is(x, -2, -2, 3);
        x.fact(3, 1);
        is(x, 2, 1, -1);
        x.fact(2, 1);
        is(x, -2, -2, 0);
        x.fact(0, 0);
        is(x, 1, 0, -1);
        x.fact(3, 0);
        x.clearFacts();
        x.fact(3, 0);
        is(x, 2, 1, -1);
    }

    private static void generalGivesWay() {
        CodeRules x = Due.told("general 10 general 11 code 10 4 code 11 4 code 12 4 when 0 = 1 code 13 4");
        x.fact(0, 1);
        is(x, 12, 2, -1);
        x.fact(0, 2);
        is(x, 13, 3, -1);
    }

    private static void generalStays() {
        CodeRules x = Due.told("code 10 4 code 11 4 code 12 4 when 0 = 1 general 10 general 11");
        x.fact(0, 2);
        is(x, 10, 0, -1);
    }

    private static void generalOnlyBehindAndOfItsGroup() {
        CodeRules x = Due.told("general 10 code 9 4 when 0 = 1 code 10 4 code 11 5 code 12 4 when 0 = 3");
        x.fact(0, 2);
        is(x, 10, 1, -1);
        x.fact(0, 3);
        is(x, 12, 3, -1);
        x.fact(0, 1);
        is(x, 9, 0, -1);
        // A branch of another group, or one to a general code, is not tried and so asks nothing.
        x = Due.told("general 10 general 11 code 10 4 code 12 5 when 1 = 1 code 11 4 when 2 = 1 code 10 4 when 3 = 1");
        is(x, 10, 0, -1);
    }

    private static void specialAsks() {
        CodeRules x = Due.told("general 10 code 10 4 code 12 4 when 6 = 1 code 13 4");
        is(x, -2, -2, 6);
        x.fact(6, 0);
        is(x, 13, 2, -1);
        x.fact(6, 1);
        is(x, 12, 1, -1);
    }

    private static void notGeneralIsTakenAtOnce() {
        CodeRules x = Due.told("general 11 code 10 4 code 12 4 when 6 = 1");
        is(x, 10, 0, -1);
    }
}
