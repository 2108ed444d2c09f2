/** Promises 9 to 11: general codes, mirrors, national codes. */
public final class CodesTest {
    private static final Due due = new Due("CodesTest");

    public static void main(String[] args) {
        generals();
        mirrors();
        maps();
        wrongMaps();
        due.end();
    }

    private static void generals() {
        CodeRules x = Due.told("general 5 general 0007 general 999999 code 6 1");
        due.is("general(5)", x.general(5), true);
        due.is("general(7)", x.general(7), true);
        due.is("general(999999)", x.general(999999), true);
        due.is("general(6)", x.general(6), false);
        due.is("general(0)", x.general(0), false);
        due.is("general(-1)", x.general(-1), false);
    }

    private static void mirrors() {
        CodeRules x = Due.told("mirror 1 2 mirror 30 4");
        due.is("mirror(1, true)", x.mirror(1, true), 2);
        due.is("mirror(1, false)", x.mirror(1, false), 1);
        due.is("mirror(2, true)", x.mirror(2, true), 2);
        due.is("mirror(2, false)", x.mirror(2, false), 1);
        due.is("mirror(30, true)", x.mirror(30, true), 4);
        due.is("mirror(4, false)", x.mirror(4, false), 30);
        due.is("mirror(3, true)", x.mirror(3, true), -1);
        due.is("mirror(3, false)", x.mirror(3, false), -1);
        due.is("mirror(-1, false)", x.mirror(-1, false), -1);
        due.is("mirror(0, true)", x.mirror(0, true), -1);
    }

    private static void maps() {
        CodeRules x = Due.told("map 5 1 20 7 map 5 1 10 6 map 5 1 20 8 map 5 2 0 9 map 8 1 0 4 map 6 0 5 6");
        due.is("map(5, 1, 9)", x.map(5, 1, 9), 5);
        due.is("map(5, 1, 10)", x.map(5, 1, 10), 6);
        due.is("map(5, 1, 19)", x.map(5, 1, 19), 6);
        due.is("map(5, 1, 20), no map of a map", x.map(5, 1, 20), 8);
        due.is("map(5, 1, 999999)", x.map(5, 1, 999999), 8);
        due.is("map(5, 2, 0)", x.map(5, 2, 0), 9);
        due.is("map(5, 0, 30)", x.map(5, 0, 30), 5);
        due.is("map(7, 1, 30)", x.map(7, 1, 30), 7);
    }

    private static void wrongMaps() {
        CodeRules x = Due.told("map 0 0 0 7");
        due.is("map(0, 0, 0)", x.map(0, 0, 0), 7);
        due.is("map(-1, 0, 0)", x.map(-1, 0, 0), -1);
        due.is("map(1000000, 0, 0)", x.map(1000000, 0, 0), -1);
        due.is("map(999999, 9, 999999)", x.map(999999, 9, 999999), 999999);
        due.is("map(0, -1, 0)", x.map(0, -1, 0), -1);
        due.is("map(0, 10, 0)", x.map(0, 10, 0), -1);
        due.is("map(0, 0, -1)", x.map(0, 0, -1), -1);
        due.is("map(0, 0, 1000000)", x.map(0, 0, 1000000), -1);
    }
}
