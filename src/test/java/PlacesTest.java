/** Promises 20 and 21: what places had. */
public final class PlacesTest {
    private static final Due due = new Due("PlacesTest");
    private static final int[] NO_PLACES = {-1, 8, 9, 256, Integer.MIN_VALUE, Integer.MAX_VALUE};

    public static void main(String[] args) {
        due.test("Promise 20, places 0 .. 7", PlacesTest::places);
        due.test("Promise 20, NONE when there is no such place", PlacesTest::noSuchPlace);
        due.test("Promise 20, NONE when no branch is taken", PlacesTest::noBranch);
        due.test("Promise 20, OPEN when a fact is asked for", PlacesTest::factIsAskedFor);
        due.test("Promise 20, the 11th, the 12th, the 13th", PlacesTest::twelve);
        due.test("Promise 20, NONE for the 13th, whatever is taken", PlacesTest::thirteenth);
        due.test("Promise 20, 12 for each place", PlacesTest::twelveEach);
        due.test("Promise 20, the code that is taken now", PlacesTest::takenNow);
        due.test("Promise 20, code 0 and code 999999", PlacesTest::outermostCodes);
        due.test("Promise 20, a refused call changes nothing", PlacesTest::refusedPut);
        due.test("Promise 20, a refused put is none of the 12", PlacesTest::refusedIsNotCounted);
        due.test("Promise 21, from the latest on", PlacesTest::fromTheLatestOn);
        due.test("Promise 21, k below 0 and behind the first code", PlacesTest::noSuchK);
        due.test("Promise 21, k of a full place", PlacesTest::fullPlace);
        due.test("Promise 21, NONE when there is no such place", PlacesTest::historyNoPlace);
        due.test("Promise 21, places are apart", PlacesTest::placesApart);
        due.test("Promise 21, it changes nothing", PlacesTest::historyChangesNothing);
        due.end();
    }

    private static void put(CodeRules x, int place, int want) {
        due.is("put(" + place + ")", x.put(place), want);
    }

    private static void had(CodeRules x, int place, int... codes) {
        for (int k = 0; k < codes.length; k++) {
            due.is("history(" + place + ", " + k + ")", x.history(place, k), codes[k]);
        }
        due.is("history(" + place + ", " + codes.length + ")", x.history(place, codes.length), -1);
    }

    /** Fact 0 tells which code is taken: 1 .. 3, or none; while it is not known, it is asked for. */
    private static CodeRules three() {
        return Due.told("code 1 0 when 0 = 1 code 2 0 when 0 = 2 code 3 0 when 0 = 3");
    }

    private static CodeRules putTimes(int times, int place) {
        CodeRules x = three();
        x.fact(0, 1);
        for (int i = 1; i <= times; i++) {
            put(x, place, 1);
        }
        return x;
    }

    private static void places() {
        CodeRules x = Due.told("code 5 0");
        for (int place = 0; place <= 7; place++) {
            had(x, place);
            put(x, place, 5);
            had(x, place, 5);
        }
    }

    private static void noSuchPlace() {
        CodeRules x = three();
        for (int place : NO_PLACES) {
            put(x, place, -1);
        }
        x.fact(0, 1);
        for (int place : NO_PLACES) {
            put(x, place, -1);
        }
        x.fact(0, 4);
        for (int place : NO_PLACES) {
            put(x, place, -1);
        }
        for (int place = 0; place <= 7; place++) {
            had(x, place);
        }
    }

    private static void noBranch() {
        CodeRules x = new CodeRules();
        put(x, 0, -1);
        put(x, 7, -1);
        x = three();
        x.fact(0, 4);
        put(x, 0, -1);
        put(x, 7, -1);
        had(x, 0);
        had(x, 7);
    }

    private static void factIsAskedFor() {
        CodeRules x = three();
        for (int place = 0; place <= 7; place++) {
            put(x, place, -2);
            had(x, place);
        }
        x = Due.told("general 1 code 1 0 code 2 0 when 9 = 1");
        put(x, 0, -2);
        had(x, 0);
    }

    private static void twelve() {
        CodeRules x = putTimes(10, 3);
        x.fact(0, 2);
        put(x, 3, 2);
        x.fact(0, 3);
        put(x, 3, 3);
        x.fact(0, 2);
        put(x, 3, -1);
        had(x, 3, 3, 2, 1, 1, 1, 1, 1, 1, 1, 1, 1, 1);
    }

    private static void thirteenth() {
        CodeRules x = putTimes(11, 3);
        x.clearFacts();
        put(x, 3, -2);
        x.fact(0, 4);
        put(x, 3, -1);
        x.fact(0, 1);
        put(x, 3, 1);
        put(x, 3, -1);
        x.fact(0, 2);
        put(x, 3, -1);
        x.fact(0, 4);
        put(x, 3, -1);
        // A place that had 12 goes ahead of a fact that is asked for.
        x.clearFacts();
        put(x, 3, -1);
        put(x, 4, -2);
        due.is("asks()", x.asks(), 0);
        had(x, 3, 1, 1, 1, 1, 1, 1, 1, 1, 1, 1, 1, 1);
        had(x, 4);
    }

    private static void twelveEach() {
        CodeRules x = Due.told("code 5 0");
        for (int place = 0; place <= 7; place++) {
            for (int i = 1; i <= 12; i++) {
                put(x, place, 5);
            }
            put(x, place, -1);
        }
        for (int place = 0; place <= 7; place++) {
            had(x, place, 5, 5, 5, 5, 5, 5, 5, 5, 5, 5, 5, 5);
        }
    }

    private static void takenNow() {
        CodeRules x = Due.told("general 1 code 1 0 code 2 0 when 0 = 1");
        x.fact(0, 1);
        put(x, 6, 2);
        x.fact(0, 0);
        put(x, 6, 1);
        due.is("read()", Due.read(x, "code 8 0"), 1);
        put(x, 6, 8);
        had(x, 6, 8, 1, 2);
    }

    private static void outermostCodes() {
        CodeRules x = Due.told("code 0 0 when 0 = 0 code 999999 0");
        x.fact(0, 0);
        put(x, 0, 0);
        x.fact(0, 1);
        put(x, 0, 999999);
        had(x, 0, 999999, 0);
    }

    private static CodeRules richAndOpen() {
        CodeRules x = Past.rich();
        x.clearFacts();
        return x;
    }

    private static CodeRules richWithNone() {
        CodeRules x = Past.richWithoutText();
        due.is("read()", Due.read(x, "code 1 1 when 0 = 9"), 1);
        return x;
    }

    private static CodeRules richAndFull() {
        CodeRules x = Past.rich();
        for (int i = 1; i < 12; i++) {
            put(x, 0, 6);
        }
        return x;
    }

    private static void refusedPut() {
        for (int place : NO_PLACES) {
            Past.stays(due, Past::rich, x -> put(x, place, -1));
        }
        Past.stays(due, PlacesTest::richAndOpen, x -> put(x, 0, -2));
        Past.stays(due, PlacesTest::richWithNone, x -> put(x, 0, -1));
        Past.stays(due, PlacesTest::richAndFull, x -> put(x, 0, -1));
    }

    private static void refusedIsNotCounted() {
        CodeRules x = three();
        for (int i = 0; i < 13; i++) {
            put(x, 5, -2);
        }
        x.fact(0, 4);
        for (int i = 0; i < 13; i++) {
            put(x, 5, -1);
        }
        x.fact(0, 1);
        for (int i = 1; i <= 12; i++) {
            put(x, 5, 1);
        }
        put(x, 5, -1);
    }

    private static void fromTheLatestOn() {
        CodeRules x = three();
        had(x, 2);
        x.fact(0, 1);
        put(x, 2, 1);
        had(x, 2, 1);
        x.fact(0, 2);
        put(x, 2, 2);
        had(x, 2, 2, 1);
        x.fact(0, 3);
        put(x, 2, 3);
        had(x, 2, 3, 2, 1);
    }

    private static void noSuchK() {
        CodeRules x = putTimes(2, 0);
        int[] none = {-1, 2, 3, 11, 12, Integer.MIN_VALUE, Integer.MAX_VALUE};
        for (int k : none) {
            due.is("history(0, " + k + ")", x.history(0, k), -1);
            due.is("history(1, " + k + ")", x.history(1, k), -1);
        }
        had(x, 0, 1, 1);
    }

    private static void fullPlace() {
        CodeRules x = three();
        x.fact(0, 3);
        put(x, 4, 3);
        put(x, 5, 3);
        x.fact(0, 2);
        for (int i = 1; i <= 10; i++) {
            put(x, 4, 2);
        }
        x.fact(0, 1);
        put(x, 4, 1);
        due.is("history(4, -1)", x.history(4, -1), -1);
        due.is("history(4, 0)", x.history(4, 0), 1);
        due.is("history(4, 10)", x.history(4, 10), 2);
        due.is("history(4, 11)", x.history(4, 11), 3);
        due.is("history(4, 12)", x.history(4, 12), -1);
    }

    private static void historyNoPlace() {
        CodeRules x = Due.told("code 5 0");
        for (int place = 0; place <= 7; place++) {
            put(x, place, 5);
        }
        for (int place : NO_PLACES) {
            due.is("history(" + place + ", 0)", x.history(place, 0), -1);
        }
    }

    private static void placesApart() {
        CodeRules x = three();
        x.fact(0, 1);
        put(x, 0, 1);
        x.fact(0, 2);
        put(x, 1, 2);
        put(x, 7, 2);
        x.fact(0, 3);
        put(x, 0, 3);
        had(x, 0, 3, 1);
        had(x, 1, 2);
        had(x, 2);
        had(x, 6);
        had(x, 7, 2);
    }

    private static void historyChangesNothing() {
        Past.stays(due, Past::rich, x -> {
            had(x, 0, 6);
            had(x, 7, 6);
            had(x, 1);
            for (int place : NO_PLACES) {
                x.history(place, 0);
                x.history(0, place);
            }
        });
    }
}
