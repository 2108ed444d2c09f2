/** Promises 17 to 19: permits by spans of codes. */
public final class PermitsTest {
    private static final Due due = new Due("PermitsTest");
    private static final int[] NO_PERMITS = {-1, 2, 3, 6, 256, Integer.MIN_VALUE, Integer.MAX_VALUE};
    private static final int[] NO_CODES = {-1, 1000000, Integer.MIN_VALUE, Integer.MAX_VALUE};

    public static void main(String[] args) {
        due.test("Promise 17, numbers 0 .. 5", PermitsTest::sixPermits);
        due.test("Promise 17, NONE when there are 6", PermitsTest::seventhPermit);
        due.test("Promise 17, the seventh changes nothing", PermitsTest::seventhChangesNothing);
        due.test("Promise 18, the permit must be there", PermitsTest::noSuchPermit);
        due.test("Promise 18, codes 0 .. 999999", PermitsTest::spanCodes);
        due.test("Promise 18, the first not above the second", PermitsTest::spanOrder);
        due.test("Promise 18, false when it has 5 spans", PermitsTest::fiveSpans);
        due.test("Promise 18, 5 spans for each permit", PermitsTest::fiveSpansEach);
        due.test("Promise 18, a refused call changes nothing", PermitsTest::refusedSpans);
        due.test("Promise 18, a refused span takes no room", PermitsTest::refusedTakesNoRoom);
        due.test("Promise 19, one below a span, its ends, one above", PermitsTest::aroundASpan);
        due.test("Promise 19, a span of one code", PermitsTest::spanOfOne);
        due.test("Promise 19, each of several spans", PermitsTest::severalSpans);
        due.test("Promise 19, a permit without spans", PermitsTest::noSpans);
        due.test("Promise 19, NONE when there is no such permit", PermitsTest::checkNoPermit);
        due.test("Promise 19, codes that are not such", PermitsTest::checkNoCode);
        due.test("Promise 19, permits are apart", PermitsTest::permitsApart);
        due.test("Promise 19, it changes nothing", PermitsTest::checkChangesNothing);
        due.end();
    }

    private static CodeRules permits(int count) {
        CodeRules x = new CodeRules();
        for (int permit = 0; permit < count; permit++) {
            x.permit();
        }
        return x;
    }

    private static void allows(CodeRules x, int permit, int from, int to, boolean want) {
        due.is("allows(" + permit + ", " + from + ", " + to + ")", x.allows(permit, from, to), want);
    }

    private static void check(CodeRules x, int permit, int code, int want) {
        due.is("check(" + permit + ", " + code + ")", x.check(permit, code), want);
    }

    private static void sixPermits() {
        CodeRules x = new CodeRules();
        for (int permit = 0; permit < 6; permit++) {
            check(x, permit, 0, -1);
            due.is("permit()", x.permit(), permit);
            check(x, permit, 0, 0);
            check(x, permit + 1, 0, -1);
        }
    }

    private static void seventhPermit() {
        CodeRules x = permits(5);
        due.is("permit() as the sixth", x.permit(), 5);
        due.is("permit() as the seventh", x.permit(), -1);
        due.is("permit() as the eighth", x.permit(), -1);
    }

    private static void seventhChangesNothing() {
        CodeRules x = permits(6);
        for (int permit = 0; permit < 6; permit++) {
            allows(x, permit, permit, permit, true);
        }
        due.is("permit()", x.permit(), -1);
        for (int permit = 0; permit < 6; permit++) {
            check(x, permit, permit, 1);
            check(x, permit, permit + 1, 0);
        }
        check(x, 6, 0, -1);
        allows(x, 6, 0, 0, false);
        allows(x, 5, 10, 10, true);
        Past.stays(due, PermitsTest::richWithSix, y -> due.is("permit()", y.permit(), -1));
    }

    private static CodeRules richWithSix() {
        CodeRules x = Past.rich();
        for (int permit = 2; permit < 6; permit++) {
            due.is("permit()", x.permit(), permit);
        }
        return x;
    }

    private static void noSuchPermit() {
        CodeRules x = new CodeRules();
        allows(x, 0, 1, 2, false);
        x.permit();
        x.permit();
        for (int permit : NO_PERMITS) {
            allows(x, permit, 1, 2, false);
        }
        allows(x, 0, 1, 2, true);
        allows(x, 1, 1, 2, true);
        x.permit();
        allows(x, 2, 3, 4, true);
        check(x, 2, 1, 0);
    }

    private static void spanCodes() {
        CodeRules x = permits(1);
        for (int code : NO_CODES) {
            allows(x, 0, code, code, false);
            allows(x, 0, code, 5, false);
            allows(x, 0, 5, code, false);
        }
        allows(x, 0, -1, 999999, false);
        allows(x, 0, 0, 1000000, false);
        check(x, 0, 5, 0);
        allows(x, 0, 0, 0, true);
        allows(x, 0, 999999, 999999, true);
        check(x, 0, 0, 1);
        check(x, 0, 1, 0);
        check(x, 0, 999998, 0);
        check(x, 0, 999999, 1);
        allows(x, 0, 0, 999999, true);
        check(x, 0, 1, 1);
        check(x, 0, 999998, 1);
    }

    private static void spanOrder() {
        CodeRules x = permits(1);
        allows(x, 0, 6, 5, false);
        allows(x, 0, 999999, 0, false);
        allows(x, 0, 1, 0, false);
        check(x, 0, 5, 0);
        check(x, 0, 6, 0);
        allows(x, 0, 5, 5, true);
        allows(x, 0, 7, 8, true);
        check(x, 0, 5, 1);
        check(x, 0, 6, 0);
        check(x, 0, 7, 1);
        check(x, 0, 8, 1);
    }

    private static void fiveSpans() {
        CodeRules x = permits(1);
        for (int span = 0; span < 5; span++) {
            allows(x, 0, 10 * span, 10 * span + 4, true);
        }
        allows(x, 0, 90, 91, false);
        allows(x, 0, 0, 4, false);
        check(x, 0, 90, 0);
        check(x, 0, 91, 0);
        for (int span = 0; span < 5; span++) {
            check(x, 0, 10 * span, 1);
            check(x, 0, 10 * span + 4, 1);
            check(x, 0, 10 * span + 5, 0);
        }
    }

    private static void fiveSpansEach() {
        CodeRules x = permits(6);
        for (int permit = 0; permit < 6; permit++) {
            for (int span = 0; span < 5; span++) {
                allows(x, permit, 100 * permit + span, 100 * permit + span, true);
            }
            allows(x, permit, 100 * permit + 5, 100 * permit + 5, false);
        }
        for (int permit = 0; permit < 6; permit++) {
            for (int span = 0; span < 5; span++) {
                check(x, permit, 100 * permit + span, 1);
                check(x, (permit + 1) % 6, 100 * permit + span, 0);
            }
            check(x, permit, 100 * permit + 5, 0);
        }
    }

    private static void refusedSpans() {
        for (int permit : NO_PERMITS) {
            Past.stays(due, Past::rich, x -> allows(x, permit, 9, 30, false));
        }
        for (int code : NO_CODES) {
            Past.stays(due, Past::rich, x -> allows(x, 0, code, 30, false));
            Past.stays(due, Past::rich, x -> allows(x, 1, 9, code, false));
        }
        Past.stays(due, Past::rich, x -> allows(x, 0, 30, 9, false));
        Past.stays(due, PermitsTest::richWithFiveSpans, x -> allows(x, 0, 9, 30, false));
    }

    private static CodeRules richWithFiveSpans() {
        CodeRules x = Past.rich();
        for (int span = 1; span < 5; span++) {
            allows(x, 0, 40, 40, true);
        }
        return x;
    }

    private static void refusedTakesNoRoom() {
        CodeRules x = permits(1);
        for (int i = 0; i < 6; i++) {
            allows(x, 0, 2, 1, false);
            allows(x, 0, -1, 1, false);
            allows(x, 0, 1, 1000000, false);
            allows(x, 1, 1, 1, false);
        }
        for (int span = 0; span < 5; span++) {
            allows(x, 0, span, span, true);
        }
        allows(x, 0, 5, 5, false);
    }

    private static void aroundASpan() {
        CodeRules x = permits(1);
        allows(x, 0, 10, 20, true);
        check(x, 0, 9, 0);
        check(x, 0, 10, 1);
        check(x, 0, 11, 1);
        check(x, 0, 15, 1);
        check(x, 0, 19, 1);
        check(x, 0, 20, 1);
        check(x, 0, 21, 0);
    }

    private static void spanOfOne() {
        CodeRules x = permits(1);
        allows(x, 0, 10, 10, true);
        check(x, 0, 9, 0);
        check(x, 0, 10, 1);
        check(x, 0, 11, 0);
    }

    private static void severalSpans() {
        CodeRules x = permits(1);
        allows(x, 0, 50, 60, true);
        allows(x, 0, 10, 20, true);
        allows(x, 0, 15, 55, true);
        allows(x, 0, 62, 62, true);
        int[] none = {9, 61, 63};
        int[] some = {10, 14, 15, 21, 49, 50, 60, 62};
        for (int code : none) {
            check(x, 0, code, 0);
        }
        for (int code : some) {
            check(x, 0, code, 1);
        }
    }

    private static void noSpans() {
        CodeRules x = permits(1);
        check(x, 0, 0, 0);
        check(x, 0, 1, 0);
        check(x, 0, 999999, 0);
    }

    private static void checkNoPermit() {
        CodeRules x = new CodeRules();
        check(x, 0, 0, -1);
        x.permit();
        x.permit();
        allows(x, 0, 0, 999999, true);
        allows(x, 1, 0, 999999, true);
        for (int permit : NO_PERMITS) {
            check(x, permit, 5, -1);
            check(x, permit, -1, -1);
        }
        check(x, 0, 5, 1);
        check(x, 1, 5, 1);
    }

    private static void checkNoCode() {
        CodeRules x = permits(1);
        allows(x, 0, 0, 999999, true);
        for (int code : NO_CODES) {
            check(x, 0, code, 0);
        }
    }

    private static void permitsApart() {
        CodeRules x = permits(6);
        allows(x, 0, 1, 1, true);
        allows(x, 5, 3, 3, true);
        check(x, 0, 3, 0);
        check(x, 0, 1, 1);
        check(x, 1, 1, 0);
        check(x, 4, 3, 0);
        check(x, 5, 1, 0);
        check(x, 5, 3, 1);
    }

    private static void checkChangesNothing() {
        Past.stays(due, Past::rich, x -> {
            check(x, 0, 10, 1);
            check(x, 0, 9, 0);
            for (int permit : NO_PERMITS) {
                check(x, permit, 10, -1);
            }
        });
    }
}
