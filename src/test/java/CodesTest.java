/** Promises 9 to 11: general codes, mirrors, national codes. */
public final class CodesTest {
    private static final Due due = new Due("CodesTest");
    private static final int[] NO_CODES = {-1, -2, 1000000, Integer.MIN_VALUE, Integer.MAX_VALUE};

    public static void main(String[] args) {
        due.test("Promise 9, a general code, one below it, one above", CodesTest::generals);
        due.test("Promise 9, codes 0 and 999999", CodesTest::outermostGenerals);
        due.test("Promise 9, what is no code is no general one", CodesTest::noGenerals);
        due.test("Promise 10, with hazard and without", CodesTest::mirrors);
        due.test("Promise 10, codes 0 and 999999", CodesTest::outermostMirrors);
        due.test("Promise 10, a code without mirror", CodesTest::noMirrors);
        due.test("Promise 11, one day before, the day, one behind", CodesTest::aroundTheDay);
        due.test("Promise 11, the latest day not behind it, told in any order", CodesTest::latestDay);
        due.test("Promise 11, of the same day the later sentence", CodesTest::sameDay);
        due.test("Promise 11, the code itself when there is none", CodesTest::itself);
        due.test("Promise 11, a country has its own", CodesTest::countries);
        due.test("Promise 11, no map of a map", CodesTest::notTwice);
        due.test("Promise 11, code 0 .. 999999", CodesTest::mapCodes);
        due.test("Promise 11, country 0 .. 9", CodesTest::mapCountries);
        due.test("Promise 11, day 0 .. 999999", CodesTest::mapDays);
        due.test("Promises 9 to 11, they change nothing", CodesTest::changeNothing);
        due.end();
    }

    private static void generals() {
        CodeRules x = Due.told("general 5 general 0010 code 6 1");
        due.is("general(4)", x.general(4), false);
        due.is("general(5)", x.general(5), true);
        due.is("general(6)", x.general(6), false);
        due.is("general(10)", x.general(10), true);
    }

    private static void outermostGenerals() {
        CodeRules x = Due.told("general 0 general 999999");
        due.is("general(0)", x.general(0), true);
        due.is("general(1)", x.general(1), false);
        due.is("general(999998)", x.general(999998), false);
        due.is("general(999999)", x.general(999999), true);
    }

    private static void noGenerals() {
        CodeRules x = Due.told("general 0 general 999999");
        for (int code : NO_CODES) {
            due.is("general(" + code + ")", x.general(code), false);
        }
    }

    private static void mirrors() {
        CodeRules x = Due.told("mirror 1 2 mirror 30 4");
        due.is("mirror(1, true)", x.mirror(1, true), 2);
        due.is("mirror(1, false), the code itself", x.mirror(1, false), 1);
        due.is("mirror(2, true), the code itself", x.mirror(2, true), 2);
        due.is("mirror(2, false)", x.mirror(2, false), 1);
        due.is("mirror(30, true)", x.mirror(30, true), 4);
        due.is("mirror(30, false)", x.mirror(30, false), 30);
        due.is("mirror(4, true)", x.mirror(4, true), 4);
        due.is("mirror(4, false)", x.mirror(4, false), 30);
    }

    private static void outermostMirrors() {
        CodeRules x = Due.told("mirror 0 999999");
        due.is("mirror(0, true)", x.mirror(0, true), 999999);
        due.is("mirror(0, false)", x.mirror(0, false), 0);
        due.is("mirror(999999, true)", x.mirror(999999, true), 999999);
        due.is("mirror(999999, false)", x.mirror(999999, false), 0);
    }

    private static void noMirrors() {
        CodeRules x = Due.told("mirror 1 2 mirror 30 4 code 3 1 general 3");
        int[] codes = {0, 3, 5, 29, 31, 999999};
        for (int code : codes) {
            due.is("mirror(" + code + ", true)", x.mirror(code, true), -1);
            due.is("mirror(" + code + ", false)", x.mirror(code, false), -1);
        }
        for (int code : NO_CODES) {
            due.is("mirror(" + code + ", true)", x.mirror(code, true), -1);
            due.is("mirror(" + code + ", false)", x.mirror(code, false), -1);
        }
    }

    private static void aroundTheDay() {
        CodeRules x = Due.told("map 5 1 20 7");
        due.is("map(5, 1, 19)", x.map(5, 1, 19), 5);
        due.is("map(5, 1, 20)", x.map(5, 1, 20), 7);
        due.is("map(5, 1, 21)", x.map(5, 1, 21), 7);
    }

    private static void latestDay() {
        CodeRules x = Due.told("map 5 1 20 7 map 5 1 10 6 map 5 1 30 8 map 5 1 25 5");
        int[] days = {0, 9, 10, 19, 20, 24, 25, 29, 30, 999999};
        int[] codes = {5, 5, 6, 6, 7, 7, 5, 5, 8, 8};
        for (int i = 0; i < days.length; i++) {
            due.is("map(5, 1, " + days[i] + ")", x.map(5, 1, days[i]), codes[i]);
        }
    }

    private static void sameDay() {
        CodeRules x = Due.told("map 5 1 20 9 map 5 1 20 7 map 5 1 10 6 map 5 1 20 8 map 5 1 10 4");
        due.is("map(5, 1, 19)", x.map(5, 1, 19), 4);
        due.is("map(5, 1, 20)", x.map(5, 1, 20), 8);
        due.is("map(5, 1, 21)", x.map(5, 1, 21), 8);
        x = Due.told("map 5 1 0 9 map 5 1 0 7");
        due.is("map(5, 1, 0)", x.map(5, 1, 0), 7);
    }

    private static void itself() {
        CodeRules x = Due.told("map 5 1 20 7");
        due.is("map(4, 1, 20)", x.map(4, 1, 20), 4);
        due.is("map(6, 1, 20)", x.map(6, 1, 20), 6);
        due.is("map(7, 1, 20)", x.map(7, 1, 20), 7);
        due.is("map(5, 1, 0)", x.map(5, 1, 0), 5);
    }

    private static void countries() {
        CodeRules x = Due.told("map 5 0 1 10 map 5 9 1 19 map 5 1 1 11");
        due.is("map(5, 0, 1)", x.map(5, 0, 1), 10);
        due.is("map(5, 1, 1)", x.map(5, 1, 1), 11);
        due.is("map(5, 2, 1)", x.map(5, 2, 1), 5);
        due.is("map(5, 8, 1)", x.map(5, 8, 1), 5);
        due.is("map(5, 9, 1)", x.map(5, 9, 1), 19);
    }

    private static void notTwice() {
        CodeRules x = Due.told("map 5 1 0 6 map 6 1 0 7");
        due.is("map(5, 1, 0)", x.map(5, 1, 0), 6);
        due.is("map(6, 1, 0)", x.map(6, 1, 0), 7);
    }

    private static void mapCodes() {
        CodeRules x = Due.told("map 0 0 0 7 map 999999 0 0 8");
        due.is("map(0, 0, 0)", x.map(0, 0, 0), 7);
        due.is("map(1, 0, 0)", x.map(1, 0, 0), 1);
        due.is("map(999998, 0, 0)", x.map(999998, 0, 0), 999998);
        due.is("map(999999, 0, 0)", x.map(999999, 0, 0), 8);
        due.is("map(999999, 1, 0)", x.map(999999, 1, 0), 999999);
        for (int code : NO_CODES) {
            due.is("map(" + code + ", 0, 0)", x.map(code, 0, 0), -1);
        }
    }

    private static void mapCountries() {
        CodeRules x = Due.told("map 3 0 0 7");
        for (int country = 0; country <= 9; country++) {
            due.is("map(3, " + country + ", 0)", x.map(3, country, 0), country == 0 ? 7 : 3);
        }
        int[] none = {-1, 10, 256, Integer.MIN_VALUE, Integer.MAX_VALUE};
        for (int country : none) {
            due.is("map(3, " + country + ", 0)", x.map(3, country, 0), -1);
            due.is("map(4, " + country + ", 0)", x.map(4, country, 0), -1);
        }
    }

    private static void mapDays() {
        CodeRules x = Due.told("map 3 0 0 7 map 3 0 999999 8");
        due.is("map(3, 0, 0)", x.map(3, 0, 0), 7);
        due.is("map(3, 0, 1)", x.map(3, 0, 1), 7);
        due.is("map(3, 0, 999998)", x.map(3, 0, 999998), 7);
        due.is("map(3, 0, 999999)", x.map(3, 0, 999999), 8);
        due.is("map(4, 0, 999999)", x.map(4, 0, 999999), 4);
        int[] none = {-1, 1000000, Integer.MIN_VALUE, Integer.MAX_VALUE};
        for (int day : none) {
            due.is("map(3, 0, " + day + ")", x.map(3, 0, day), -1);
            due.is("map(4, 0, " + day + ")", x.map(4, 0, day), -1);
        }
    }

    private static void changeNothing() {
        Past.stays(due, Past::rich, x -> {
            for (int code : NO_CODES) {
                x.general(code);
                x.mirror(code, true);
                x.map(code, 1, 4);
                x.map(3, code, 4);
                x.map(3, 1, code);
            }
            due.is("map(3, 1, 4)", x.map(3, 1, 4), 8);
            due.is("mirror(1, true)", x.mirror(1, true), 2);
            due.is("general(5)", x.general(5), true);
        });
    }
}
