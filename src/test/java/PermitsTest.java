/** Promises 17 to 19: permits by spans of codes. */
public final class PermitsTest {
    private static final Due due = new Due("PermitsTest");

    public static void main(String[] args) {
        numbers();
        wrongSpans();
        mostSpans();
        due.end();
    }

    private static void numbers() {
        CodeRules x = new CodeRules();
        for (int permit = 0; permit < 6; permit++) {
            due.is("check before permit", x.check(permit, 0), -1);
            due.is("permit()", x.permit(), permit);
            due.is("check after permit", x.check(permit, 0), 0);
        }
        due.is("permit() as the seventh", x.permit(), -1);
        due.is("check(6, 0)", x.check(6, 0), -1);
        due.is("check(-1, 0)", x.check(-1, 0), -1);
        due.is("allows(5, 3, 3)", x.allows(5, 3, 3), true);
        due.is("check(5, 3)", x.check(5, 3), 1);
        due.is("check(4, 3)", x.check(4, 3), 0);
    }

    private static void wrongSpans() {
        CodeRules x = new CodeRules();
        due.is("allows(0, 1, 2) without permit", x.allows(0, 1, 2), false);
        x.permit();
        due.is("allows(-1, 1, 2)", x.allows(-1, 1, 2), false);
        due.is("allows(1, 1, 2)", x.allows(1, 1, 2), false);
        due.is("allows(0, -1, 2)", x.allows(0, -1, 2), false);
        due.is("allows(0, 1, 1000000)", x.allows(0, 1, 1000000), false);
        due.is("allows(0, 1000000, 1000000)", x.allows(0, 1000000, 1000000), false);
        due.is("allows(0, 2, 1)", x.allows(0, 2, 1), false);
        due.is("check(0, 1)", x.check(0, 1), 0);
        due.is("allows(0, 0, 999999)", x.allows(0, 0, 999999), true);
        due.is("check(0, 0)", x.check(0, 0), 1);
        due.is("check(0, 999999)", x.check(0, 999999), 1);
        due.is("check(0, -1)", x.check(0, -1), 0);
        due.is("check(0, 1000000)", x.check(0, 1000000), 0);
    }

    private static void mostSpans() {
        CodeRules x = new CodeRules();
        x.permit();
        x.permit();
        for (int i = 0; i < 5; i++) {
            due.is("allows(0, ..)", x.allows(0, 10 * i, 10 * i + 4), true);
        }
        due.is("allows(0, 90, 91) as the sixth", x.allows(0, 90, 91), false);
        due.is("check(0, 90)", x.check(0, 90), 0);
        for (int i = 0; i < 5; i++) {
            due.is("check at a span's start", x.check(0, 10 * i), 1);
            due.is("check at its end", x.check(0, 10 * i + 4), 1);
            due.is("check behind it", x.check(0, 10 * i + 5), 0);
        }
        due.is("check(1, 0)", x.check(1, 0), 0);
        due.is("allows(1, 90, 91)", x.allows(1, 90, 91), true);
        due.is("check(1, 91)", x.check(1, 91), 1);
    }
}
