/** Promise 3: sentences, the first wrong word, what a text forgets. */
public final class ReadTest {
    private static final Due due = new Due("ReadTest");

    public static void main(String[] args) {
        counts();
        wrongWords();
        wantingWords();
        wrongMirrors();
        wrongNames();
        tooMany();
        tooManyConditions();
        forgets();
        staysAfterWrongText();
        due.end();
    }

    private static void reads(String text, int want) {
        due.is("read() of '" + text + "'", Due.read(new CodeRules(), text), want);
    }

    private static void counts() {
        reads("", 0);
        reads(" \n ", 0);
        reads("code 1 2", 1);
        reads("code 1 2 when 3 < 4 when 5 = 6 when 7 > 8", 1);
        reads("general 1 general 1", 2);
        reads("mirror 1 2 map 1 2 3 4 name 5 code", 3);
        reads("code 000001 000009 when 000009 = 999999", 1);
        reads("map 999999 9 999999 999999 name 0 abcdefgh", 2);
    }

    private static void wrongWords() {
        reads("when 1 < 1", -1);
        reads("Code 1 1", -1);
        reads("codes 1 1", -1);
        reads("general 1 when 1 < 1", -3);
        reads("code x 1", -2);
        reads("code 1234567 1", -2);
        reads("code 0000001 1", -2);
        reads("code -1 1", -2);
        reads("code 1 10", -3);
        reads("code 1 1 1", -4);
        reads("code 1 1 when 10 < 1", -5);
        reads("code 1 1 when 1 <= 1", -6);
        reads("code 1 1 when 1 ! 1", -6);
        reads("code 1 1 when 1 < 1x", -7);
        reads("code 1 1 when 1 < 1234567", -7);
        reads("code 1 1 when 1 < 1 when x", -9);
        reads("general 1/", -2);
        reads("general 1:", -2);
        reads("map x 1 1 1", -2);
        reads("map 1 10 1 1", -3);
        reads("map 1 1 x 1", -4);
        reads("map 1 1 1 1000000", -5);
        // The first wrong word counts, though a later one is wrong too.
        reads("map 1 10 x", -3);
    }

    private static void wantingWords() {
        reads("code", -2);
        reads("code 1", -3);
        reads("code 1 1 when", -5);
        reads("code 1 1 when 1", -6);
        reads("code 1 1 when 1 =", -7);
        reads("general", -2);
        reads("mirror", -2);
        reads("mirror 1", -3);
        reads("map", -2);
        reads("map 1", -3);
        reads("map 1 1", -4);
        reads("map 1 1 1", -5);
        reads("name", -2);
        reads("name 1 ", -3);
        reads("general 1 general \n", -4);
    }

    private static void wrongMirrors() {
        reads("mirror 1 1", -3);
        reads("mirror 1 01", -3);
        reads("mirror 1 2 mirror 3 4", 2);
        reads("mirror 1 2 mirror 1 3", -5);
        reads("mirror 1 2 mirror 2 3", -5);
        reads("mirror 1 2 mirror 3 1", -6);
        reads("mirror 1 2 mirror 3 2", -6);
        reads("mirror 1 2 mirror 2", -5);
    }

    private static void wrongNames() {
        reads("name 1 abcdefghi", -3);
        reads("name 1 aB", -3);
        reads("name 1 a1", -3);
        reads("name 1 a{", -3);
        reads("name 1 a`", -3);
        reads("name 1 oil name 2 oil", -6);
        reads("name 1 oil name 2 oi name 3 oilx", 3);
    }

    private static void tooMany() {
        reads(Due.row(30, "code # 1"), 30);
        reads(Due.row(31, "code # 1"), -1 - 90);
        reads(Due.row(30, "code # 1") + "code", -1 - 90);
        reads(Due.row(16, "general #"), 16);
        reads(Due.row(17, "general #"), -1 - 32);
        reads(Due.row(16, "general 1") + "general x", -1 - 32);
        reads(Due.row(16, "mirror # 5#9"), 16);
        reads(Due.row(17, "mirror # 5#9"), -1 - 48);
        reads(Due.row(20, "map # 1 1 1"), 20);
        reads(Due.row(21, "map # 1 1 1"), -1 - 100);
        reads(Due.row(20, "name # @"), 20);
        reads(Due.row(21, "name # @"), -1 - 60);
    }

    private static void tooManyConditions() {
        reads("code 1 1\n" + Due.row(60, "when 1 < 1"), 1);
        reads("code 1 1\n" + Due.row(60, "when 1 < 1") + "code 2 2", 2);
        reads("code 1 1\n" + Due.row(61, "when 1 < 1"), -1 - 243);
        reads("code 1 1\n" + Due.row(59, "when 1 < 1") + "code 2 2 when 1 < 1 when", -1 - 246);
    }

    private static void forgets() {
        CodeRules x = Due.told("code 5 1 general 5 mirror 1 2 map 3 1 0 4 name 7 oil");
        x.needs(0, 1);
        x.needs(0, 2);
        x.paper(0, 1);
        x.fact(3, 4);
        x.permit();
        x.allows(0, 1, 2);
        x.put(0);
        due.is("read()", x.read(), 0);
        due.is("code()", x.code(), -1);
        due.is("general(5)", x.general(5), false);
        due.is("mirror(1, true)", x.mirror(1, true), -1);
        due.is("map(3, 1, 0)", x.map(3, 1, 0), 3);
        due.is("lacks(0, 0)", x.lacks(0, 0), -1);
        due.is("needs(0, 1)", x.needs(0, 1), true);
        due.is("lacks(0, 0), the paper is forgotten", x.lacks(0, 0), 1);
        due.is("needs(0, 0)", x.needs(0, 0), true);
        due.is("lacks(0, 0)", x.lacks(0, 0), 0);
        Due.say(x, "oil");
        due.is("near(0)", x.near(0), -1);
        due.is("history(0, 0) stays", x.history(0, 0), 5);
        due.is("check(0, 2) stays", x.check(0, 2), 1);
        due.is("clearFacts(), they stay", x.clearFacts(), 1);
    }

    private static void staysAfterWrongText() {
        CodeRules x = Due.told("code 5 1 general 5 mirror 1 2 map 3 1 0 4 name 7 oil");
        x.needs(0, 1);
        x.needs(0, 2);
        x.paper(0, 1);
        due.is("read()", Due.read(x, "code 6 1 general 6 mirror 3 4 name 8 tar x"), -1 - 11);
        due.is("code()", x.code(), 5);
        due.is("general(5)", x.general(5), true);
        due.is("general(6)", x.general(6), false);
        due.is("mirror(1, true)", x.mirror(1, true), 2);
        due.is("mirror(3, true)", x.mirror(3, true), -1);
        due.is("map(3, 1, 0)", x.map(3, 1, 0), 4);
        due.is("lacks(0, 0)", x.lacks(0, 0), 2);
        due.is("lacks(0, 1)", x.lacks(0, 1), -1);
        Due.say(x, "tar");
        due.is("near(0)", x.near(0), 7);
        due.is("near(1)", x.near(1), -1);
        due.is("edits(0)", x.edits(0), 3);
        due.is("read() of tar x", Due.read(x, " x"), -1);
        due.is("read() of the empty text", x.read(), 0);
        due.is("code()", x.code(), -1);
    }
}
