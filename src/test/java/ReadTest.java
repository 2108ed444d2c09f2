import java.util.Arrays;

/** Promise 3: how many sentences, the first wrong word, what a text forgets and what it leaves. */
public final class ReadTest {
    private static final Due due = new Due("ReadTest");
    private static final String ALL_KINDS = "code 5 1 general 5 mirror 1 2 map 3 1 0 4 name 7 oil";

    public static void main(String[] args) {
        due.test("Promise 3, answers how many sentences there are", ReadTest::counts);
        due.test("Promise 3, an empty text tells none", ReadTest::emptyText);
        due.test("Promise 3, the number of the first wrong word", ReadTest::firstWrongWord);
        due.test("Promise 3, more words should come", ReadTest::moreShouldCome);
        due.test("Promise 3, 30 branches at most", () -> most(30, "code # 1", 3));
        due.test("Promise 3, 16 general sentences at most", () -> most(16, "general #", 2));
        due.test("Promise 3, 16 mirror sentences at most", () -> most(16, "mirror # 5#9", 3));
        due.test("Promise 3, 20 map sentences at most", () -> most(20, "map # 1 1 4#", 5));
        due.test("Promise 3, 20 name sentences at most", () -> most(20, "name # @", 3));
        due.test("Promise 3, the last one of the most counts", ReadTest::lastOfTheMost);
        due.test("Promise 3, the most of one kind leave the others theirs", ReadTest::mostOfEachKind);
        due.test("Promise 3, the same general code twice is two sentences", ReadTest::sameGeneral);
        due.test("Promise 3, 60 conditions at most in one branch", ReadTest::conditionsOfOneBranch);
        due.test("Promise 3, 60 conditions at most in all", ReadTest::conditionsOfAll);
        due.test("Promise 3, mirror codes are different", ReadTest::differentMirrors);
        due.test("Promise 3, none in another mirror sentence", ReadTest::noOtherMirror);
        due.test("Promise 3, no name twice", ReadTest::noNameTwice);
        due.test("Promise 3, each text is told anew", ReadTest::anew);
        due.test("Promise 3, nothing stays of a refused text", ReadTest::nothingOfARefusedText);
        due.test("Promise 3, sentences of before are forgotten", ReadTest::sentencesAreForgotten);
        due.test("Promise 3, sentences of several texts before are forgotten", ReadTest::severalTexts);
        due.test("Promise 3, papers are forgotten too", ReadTest::papersAreForgotten);
        due.test("Promise 3, facts, permits and histories are not forgotten", ReadTest::othersAreNotForgotten);
        due.test("Promise 3, the text is empty then", ReadTest::textIsEmptyThen);
        due.test("Promise 3, after a wrong word those of before stay", ReadTest::thoseOfBeforeStay);
        due.test("Promise 3, after a wrong word the text is empty too", ReadTest::refusedTextIsEmptyThen);
        due.end();
    }

    private static void counts() {
        due.reads("code 1 2", 1);
        due.reads("code 1 2 when 3 < 4 when 5 = 6 when 7 > 8", 1);
        due.reads("code 1 2 code 1 2", 2);
        due.reads("mirror 1 2 map 1 2 3 4 name 5 code", 3);
        due.reads(ALL_KINDS, 5);
        due.reads("name 7 oil map 3 1 0 4 mirror 1 2 general 5 code 5 1", 5);
    }

    private static void emptyText() {
        due.reads("", 0);
        due.reads(" \n", 0);
        CodeRules x = Due.told(ALL_KINDS);
        due.is("read()", x.read(), 0);
        due.is("code()", x.code(), -1);
        due.is("general(5)", x.general(5), false);
    }

    private static void firstWrongWord() {
        due.reads("x", -1);
        due.reads("x general 1", -1);
        due.reads("general x", -2);
        due.reads("general 1 x", -3);
        due.reads("general 1 general x", -4);
        due.reads("code x 1", -2);
        due.reads("code 1 x", -3);
        due.reads("code 1 1 x", -4);
        due.reads("code 1 1 when x < 1", -5);
        due.reads("code 1 1 when 1 x 1", -6);
        due.reads("code 1 1 when 1 < x", -7);
        due.reads("code 1 1 when 1 < 1 x", -8);
        due.reads("code 1 1 when 1 < 1 when x", -9);
        due.reads("mirror x 1", -2);
        due.reads("mirror 1 x", -3);
        due.reads("map x 1 1 1", -2);
        due.reads("map 1 x 1 1", -3);
        due.reads("map 1 1 x 1", -4);
        due.reads("map 1 1 1 x", -5);
        due.reads("name x a", -2);
        due.reads("name 1 X", -3);
        // The first one counts, though a later one is wrong or wanting too.
        due.reads("map 1 10 x", -3);
        due.reads("general 1 x y z", -3);
        due.reads(Due.row(16, "general #") + "x", -33);
    }

    private static void moreShouldCome() {
        cut("code 1 1 when 1 < 1 when 2 = 2", 3, 7, 11);
        cut("general 1", 2);
        cut("mirror 1 2", 3);
        cut("map 1 1 1 1", 5);
        cut("name 1 a", 3);
    }

    /** The sentence is cut behind each of its words; behind some of them it is a whole one. */
    private static void cut(String sentence, int... whole) {
        String[] words = sentence.split(" ");
        for (int n = 1; n <= words.length; n++) {
            String start = String.join(" ", Arrays.copyOf(words, n));
            int length = n;
            boolean isWhole = Arrays.stream(whole).anyMatch(w -> w == length);
            due.reads(start, isWhole ? 1 : -1 - n);
            due.reads(start + " \n", isWhole ? 1 : -1 - n);
            due.reads("general 9\n" + start, isWhole ? 2 : -3 - n);
        }
    }

    /** One below the most, the most, and one above: that one is wrong at its first word, whatever follows. */
    private static void most(int most, String sentence, int words) {
        int wrong = -1 - most * words;
        String first = sentence.substring(0, sentence.indexOf(' '));
        due.reads(Due.row(most - 1, sentence), most - 1);
        due.reads(Due.row(most, sentence), most);
        due.reads(Due.row(most + 1, sentence), wrong);
        due.reads(Due.row(most, sentence) + first, wrong);
        due.reads(Due.row(most, sentence) + first + " x", wrong);
        due.reads(Due.row(most, sentence) + "x", wrong);
        CodeRules x = Due.told("code 900 1 general 901 mirror 902 903 map 904 1 0 905 name 906 zz");
        due.is("read() of one above the most", Due.read(x, Due.row(most + 1, sentence)), wrong);
        staysAsTold(x);
    }

    private static void staysAsTold(CodeRules x) {
        due.is("code()", x.code(), 900);
        due.is("taken()", x.taken(), 0);
        due.is("general(901)", x.general(901), true);
        due.is("general(0)", x.general(0), false);
        due.is("mirror(902, true)", x.mirror(902, true), 903);
        due.is("mirror(0, true)", x.mirror(0, true), -1);
        due.is("map(904, 1, 0)", x.map(904, 1, 0), 905);
        due.is("map(0, 1, 1)", x.map(0, 1, 1), 0);
        Due.say(x, "zz");
        due.is("near(0)", x.near(0), 906);
        due.is("near(1)", x.near(1), -1);
    }

    private static void lastOfTheMost() {
        CodeRules x = Due.told(Due.row(16, "general #"));
        due.is("general(15)", x.general(15), true);
        due.is("general(16)", x.general(16), false);
        x = Due.told(Due.row(16, "mirror # 5#9"));
        due.is("mirror(15, true)", x.mirror(15, true), 5159);
        due.is("mirror(5159, false)", x.mirror(5159, false), 15);
        x = Due.told(Due.row(20, "map # 1 1 4#"));
        due.is("map(19, 1, 1)", x.map(19, 1, 1), 419);
        due.is("map(20, 1, 1)", x.map(20, 1, 1), 20);
        x = Due.told(Due.row(20, "name # @"));
        Due.say(x, "t");
        due.is("near(0)", x.near(0), 19);
        due.is("near(19)", x.near(19), 18);
        x = Due.told("general 1\n" + Due.row(29, "code 1 1") + "code 77 1");
        due.is("taken()", x.taken(), 29);
        due.is("code()", x.code(), 77);
    }

    private static void mostOfEachKind() {
        due.reads(Due.row(16, "general #") + Due.row(16, "mirror # 5#9"), 32);
        due.reads(Due.row(16, "mirror # 5#9") + "general 1 code 1 1 map 1 1 1 1 name 1 a", 20);
        due.reads(Due.row(20, "map # 1 1 1") + "general 1 code 1 1 mirror 1 2 name 1 a", 24);
        due.reads(Due.row(20, "name # @") + "general 1 code 1 1 map 1 1 1 1 mirror 1 2", 24);
        due.reads(Due.row(30, "code # 1") + "general 1 name 1 a map 1 1 1 1 mirror 1 2", 34);
        due.reads(Due.row(16, "general #") + Due.row(20, "name # @") + "general 1", -1 - 32 - 60);
    }

    private static void sameGeneral() {
        due.reads("general 1 general 1", 2);
        due.reads(Due.row(16, "general 1"), 16);
        due.reads(Due.row(17, "general 1"), -33);
    }

    // 60 conditions take more than the 512 calls for which the document promises answers. This
    // program keeps to the sentence there too, and these two cases hold it to that.

    private static void conditionsOfOneBranch() {
        String when = "when 1 = 1";
        due.reads("code 1 1\n" + Due.row(59, when), 1);
        due.reads("code 1 1\n" + Due.row(60, when), 1);
        due.reads("code 1 1\n" + Due.row(60, when) + "code 2 2 general 3", 3);
        due.reads("code 1 1\n" + Due.row(61, when), -1 - 243);
        due.reads("code 1 1\n" + Due.row(60, when) + "when", -1 - 243);
        CodeRules x = Due.told("code 1 1\n" + Due.row(59, when) + "when 2 = 5");
        x.fact(1, 1);
        due.is("asks(), the 60th condition is open", x.asks(), 2);
        x.fact(2, 4);
        due.is("taken(), the 60th condition does not hold", x.taken(), -1);
        due.is("read()", Due.read(x, "code 1 1\n" + Due.row(61, when)), -1 - 243);
        due.is("taken(), those of before stay", x.taken(), -1);
        x.fact(2, 5);
        due.is("taken(), those of before stay", x.taken(), 0);
    }

    private static void conditionsOfAll() {
        String when = "when 1 = 1";
        due.reads("code 1 1\n" + Due.row(59, when) + "code 2 2 when 1 = 1", 2);
        due.reads("code 1 1\n" + Due.row(59, when) + "code 2 2 when 1 = 1 when", -1 - 246);
        due.reads("code 1 1\n" + Due.row(30, when) + "code 2 2\n" + Due.row(30, when) + "code 3 3", 3);
        due.reads("code 1 1\n" + Due.row(30, when) + "code 2 2\n" + Due.row(30, when) + "code 3 3 when", -1 - 249);
        CodeRules x = Due.told("code 1 1\n" + Due.row(60, when));
        due.is("read(), the conditions are told anew", Due.read(x, "code 2 2\n" + Due.row(60, when)), 1);
    }

    private static void differentMirrors() {
        due.reads("mirror 1 2", 1);
        due.reads("mirror 0 999999", 1);
        due.reads("mirror 1 1", -3);
        due.reads("mirror 1 01", -3);
        due.reads("mirror 0 000000", -3);
        due.reads("mirror 999999 999999", -3);
    }

    private static void noOtherMirror() {
        due.reads("mirror 1 2 mirror 3 4 mirror 5 6", 3);
        due.reads("mirror 1 2 mirror 1 3", -5);
        due.reads("mirror 1 2 mirror 2 3", -5);
        due.reads("mirror 1 2 mirror 3 1", -6);
        due.reads("mirror 1 2 mirror 3 2", -6);
        due.reads("mirror 1 2 mirror 1 2", -5);
        due.reads("mirror 1 2 mirror 2 1", -5);
        due.reads("mirror 1 2 mirror 3 4 mirror 3 5", -8);
        due.reads("mirror 1 2 mirror 3 4 mirror 5 4", -9);
        due.reads("mirror 0 1 mirror 2 0", -6);
        due.reads("mirror 1 2 mirror 02", -5);
    }

    private static void noNameTwice() {
        due.reads("name 1 oil name 2 oil", -6);
        due.reads("name 1 oil name 1 oil", -6);
        due.reads("name 1 tin name 2 oil name 3 tin", -9);
        due.reads("name 1 abcdefgh name 2 abcdefgh", -6);
        due.reads("name 1 abcdefgh name 2 abcdefgi name 3 bbcdefgh", 3);
        due.reads("name 1 oil name 2 oi name 3 oils name 4 lio name 5 o", 5);
        due.reads("name 1 oil name 1 tin", 2);
    }

    private static void anew() {
        CodeRules x = Due.told("mirror 1 2 name 1 oil general 1");
        due.is("read(), the same once more", Due.read(x, "mirror 2 1 name 2 oil general 1"), 3);
        due.is("mirror(1, true)", x.mirror(1, true), 1);
        x = Due.told(Due.row(16, "general #"));
        due.is("read(), the most once more", Due.read(x, Due.row(16, "general 2#")), 16);
        due.is("general(0)", x.general(0), false);
        due.is("general(215)", x.general(215), true);
        x = Due.told(Due.row(20, "name # @"));
        due.is("read(), the most once more", Due.read(x, Due.row(20, "name # @")), 20);
        x = Due.told(Due.row(20, "map 1 1 1 1"));
        due.is("read(), the most once more", Due.read(x, Due.row(20, "map 1 1 1 2")), 20);
        x = Due.told(Due.row(16, "mirror # 7#"));
        due.is("read(), the most once more", Due.read(x, Due.row(16, "mirror # 7#")), 16);
        x = Due.told(Due.row(30, "code 1 1"));
        due.is("read()", Due.read(x, Due.row(20, "code 1 1")), 20);
    }

    private static void nothingOfARefusedText() {
        CodeRules x = new CodeRules();
        due.is("read()", Due.read(x, "mirror 1 2 name 1 oil general 1 code 1 1 map 3 1 1 4 x"), -17);
        nothingIsTold(x);
        due.is("read()", Due.read(x, "mirror 5 6 name 2 tin general 5 code 2 1 map 5 1 1 6"), 5);
        due.is("taken()", x.taken(), 0);
        due.is("code()", x.code(), 2);
        due.is("general(1)", x.general(1), false);
        due.is("mirror(1, true)", x.mirror(1, true), -1);
        due.is("map(3, 1, 1)", x.map(3, 1, 1), 3);
        Due.say(x, "oil");
        due.is("near(0)", x.near(0), 2);
        due.is("near(1)", x.near(1), -1);
        mostAfterARefusedText(30, 20, "code 1 1");
        mostAfterARefusedText(16, 16, "general #");
        mostAfterARefusedText(16, 16, "mirror # 7#");
        mostAfterARefusedText(20, 20, "map 1 1 1 1");
        mostAfterARefusedText(20, 20, "name # @");
    }

    private static void mostAfterARefusedText(int most, int then, String sentence) {
        CodeRules x = new CodeRules();
        due.is("read() with a wrong word behind", Due.read(x, Due.row(most, sentence) + "x") < 0, true);
        due.is("read() of " + then + " '" + sentence + "' then", Due.read(x, Due.row(then, sentence)), then);
    }

    private static void nothingIsTold(CodeRules x) {
        due.is("code()", x.code(), -1);
        due.is("general(1)", x.general(1), false);
        due.is("mirror(1, true)", x.mirror(1, true), -1);
        due.is("map(3, 1, 1)", x.map(3, 1, 1), 3);
        Due.say(x, "oil");
        due.is("near(0)", x.near(0), -1);
        due.is("read() of oil alone", x.read(), -1);
    }

    /** What is forgotten does not come back with a later text. */
    private static void severalTexts() {
        CodeRules x = Due.told("mirror 1 2 name 1 oil general 1 code 1 1 map 3 1 1 4");
        for (int i = 0; i < 3; i++) {
            due.is("read()", x.read(), 0);
            nothingIsTold(x);
        }
        due.is("read()", Due.read(x, "map 3 1 2 9 name 2 oil"), 2);
        due.is("map(3, 1, 1)", x.map(3, 1, 1), 3);
        due.is("map(3, 1, 2)", x.map(3, 1, 2), 9);
        due.is("read()", Due.read(x, "code 7 1 code 8 1"), 2);
        due.is("code()", x.code(), 7);
        due.is("map(3, 1, 2)", x.map(3, 1, 2), 3);
        due.is("read()", Due.read(x, "general 7 code 7 1 code 8 1"), 3);
        due.is("code()", x.code(), 8);
        due.is("read()", Due.read(x, "code 7 1 code 8 1"), 2);
        due.is("code()", x.code(), 7);
    }

    private static void sentencesAreForgotten() {
        CodeRules x = Due.told(ALL_KINDS);
        due.is("read()", Due.read(x, "code 8 1 general 9 mirror 8 9 map 8 1 0 9 name 9 tin"), 5);
        due.is("code()", x.code(), 8);
        due.is("taken()", x.taken(), 0);
        due.is("general(5)", x.general(5), false);
        due.is("mirror(1, true)", x.mirror(1, true), -1);
        due.is("mirror(2, false)", x.mirror(2, false), -1);
        due.is("map(3, 1, 0)", x.map(3, 1, 0), 3);
        Due.say(x, "oil");
        due.is("near(0)", x.near(0), 9);
        due.is("near(1)", x.near(1), -1);
    }

    private static void papersAreForgotten() {
        CodeRules x = new CodeRules();
        for (int end = 0; end < 6; end++) {
            x.needs(end, 1);
            x.needs(end, 2);
            x.paper(end, 1);
        }
        due.is("read()", Due.read(x, "general 1"), 1);
        for (int end = 0; end < 6; end++) {
            due.is("lacks(" + end + ", 0), it needs none", x.lacks(end, 0), -1);
            due.is("needs(" + end + ", 1)", x.needs(end, 1), true);
            due.is("lacks(" + end + ", 0), paper 1 is not there", x.lacks(end, 0), 1);
        }
        due.is("read() of an empty text", x.read(), 0);
        due.is("lacks(0, 0)", x.lacks(0, 0), -1);
        due.is("needs(0, 1)", x.needs(0, 1), true);
    }

    private static void othersAreNotForgotten() {
        CodeRules x = Due.told("code 5 1");
        x.fact(3, 4);
        x.permit();
        x.allows(0, 1, 2);
        x.put(0);
        due.is("read()", Due.read(x, "code 6 1 when 3 = 4"), 1);
        due.is("code()", x.code(), 6);
        due.is("history(0, 0)", x.history(0, 0), 5);
        due.is("history(0, 1)", x.history(0, 1), -1);
        due.is("check(0, 2)", x.check(0, 2), 1);
        due.is("permit()", x.permit(), 1);
        due.is("clearFacts()", x.clearFacts(), 1);
    }

    private static void textIsEmptyThen() {
        CodeRules x = Due.told("name 1 a");
        due.is("near(0)", x.near(0), -1);
        due.is("read() again", x.read(), 0);
        x = Due.told("general 1");
        due.is("read() of 2 alone", Due.read(x, "2"), -1);
    }

    private static void thoseOfBeforeStay() {
        String[] wrong = {"x", "code", "code 7 7 when 0 < 9 code 8 1 when", "general 6 general 7 x", "mirror 3 4 mirror 1 7 mirror 2",
            "map 3 1 3 9 map 3 1 4 10 map", "name 8 t name 9 tan name 10 tan", "code 9 1 general 6 mirror 3 1 map 3 1 0 7 name 1 t x"};
        for (String text : wrong) {
            Past.stays(due, Past::richWithoutText, x -> due.is("read() of '" + text + "'", Due.read(x, text) < 0, true));
        }
    }

    private static void refusedTextIsEmptyThen() {
        CodeRules x = Due.told("name 1 tin");
        due.is("read()", Due.read(x, "tar x"), -1);
        due.is("near(0)", x.near(0), -1);
        due.is("read()", Due.read(x, "general 1"), 1);
        due.is("general(1)", x.general(1), true);
        x = Due.told("general 7");
        due.is("read()", Due.read(x, "general"), -2);
        due.is("read()", Due.read(x, " 8"), -1);
        due.is("general(7)", x.general(7), true);
        due.is("read() of the empty text", x.read(), 0);
        due.is("general(7)", x.general(7), false);
    }
}
