/** Promises 20 and 21: what places had. */
public final class PlacesTest {
    private static final Due due = new Due("PlacesTest");

    public static void main(String[] args) {
        putsAndHistory();
        nothingTaken();
        mostOfAPlace();
        mostGoesAheadOfOpen();
        due.end();
    }

    private static void putsAndHistory() {
        CodeRules x = Due.told("code 1 0 when 0 = 1 code 0 0 when 0 = 2 code 3 0");
        for (int v = 1; v <= 3; v++) {
            x.fact(0, v);
            x.put(7);
        }
        due.is("put(0)", x.put(0), 3);
        due.is("put(-1)", x.put(-1), -1);
        due.is("put(8)", x.put(8), -1);
        due.is("history(7, 0)", x.history(7, 0), 3);
        due.is("history(7, 1)", x.history(7, 1), 0);
        due.is("history(7, 2)", x.history(7, 2), 1);
        due.is("history(7, 3)", x.history(7, 3), -1);
        due.is("history(7, -1)", x.history(7, -1), -1);
        due.is("history(7, min)", x.history(7, Integer.MIN_VALUE), -1);
        due.is("history(0, 0)", x.history(0, 0), 3);
        due.is("history(0, 1)", x.history(0, 1), -1);
        due.is("history(1, 0)", x.history(1, 0), -1);
        due.is("history(-1, 0)", x.history(-1, 0), -1);
        due.is("history(8, 0)", x.history(8, 0), -1);
    }

    private static void nothingTaken() {
        CodeRules x = new CodeRules();
        due.is("put(0)", x.put(0), -1);
        Due.read(x, "code 1 0 when 0 = 1");
        due.is("put(0), a fact is asked for", x.put(0), -2);
        due.is("put(8), there is no such place", x.put(8), -1);
        x.fact(0, 2);
        due.is("put(0), no branch is taken", x.put(0), -1);
        due.is("history(0, 0)", x.history(0, 0), -1);
    }

    private static void mostOfAPlace() {
        CodeRules x = Due.told("code 1 0 when 0 = 1 code 2 0");
        x.fact(0, 1);
        for (int i = 0; i < 12; i++) {
            due.is("put(3)", x.put(3), 1);
        }
        x.fact(0, 2);
        due.is("put(3) as the 13th", x.put(3), -1);
        due.is("history(3, 0)", x.history(3, 0), 1);
        due.is("history(3, 11)", x.history(3, 11), 1);
        due.is("history(3, 12)", x.history(3, 12), -1);
        due.is("put(4)", x.put(4), 2);
        due.is("history(4, 0)", x.history(4, 0), 2);
    }

    private static void mostGoesAheadOfOpen() {
        CodeRules x = Due.told("code 1 0 when 0 = 1");
        x.fact(0, 1);
        for (int i = 0; i < 11; i++) {
            x.put(3);
        }
        x.clearFacts();
        due.is("put(3) as the 12th, a fact is asked for", x.put(3), -2);
        x.fact(0, 1);
        due.is("put(3) as the 12th", x.put(3), 1);
        x.clearFacts();
        due.is("put(3) as the 13th, a fact is asked for", x.put(3), -1);
        due.is("put(4), a fact is asked for", x.put(4), -2);
        due.is("asks()", x.asks(), 0);
        x.fact(0, 2);
        due.is("put(3) as the 13th, no branch is taken", x.put(3), -1);
        due.is("history(3, 11)", x.history(3, 11), 1);
        due.is("history(3, 12)", x.history(3, 12), -1);
        due.is("history(4, 0)", x.history(4, 0), -1);
    }
}
