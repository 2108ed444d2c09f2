/** Promise 3 by the Terms: what words, numbers, names, signs and sentences are, byte by byte. */
public final class TermsTest {
    private static final Due due = new Due("TermsTest");
    private static final String[] NUMBERS = {"code # 1", "code 1 1 when 1 < #", "general #", "mirror # 70", "mirror 70 #",
        "map # 1 1 1", "map 1 1 # 1", "map 1 1 1 #", "name # oil"};
    private static final String[] SMALL_NUMBERS = {"code 1 #", "code 1 1 when # < 1", "map 1 # 1 1"};

    public static void main(String[] args) {
        due.test("Promise 3, words: bytes 32 and 10 alone part them", TermsTest::partingBytes);
        due.test("Promise 3, words: blanks before, behind, and many", TermsTest::manyBlanks);
        due.test("Promise 3, numbers: one to six digits", TermsTest::oneToSixDigits);
        due.test("Promise 3, numbers: seven digits", TermsTest::sevenDigits);
        due.test("Promise 3, numbers: digits alone", TermsTest::digitsAlone);
        due.test("Promise 3, numbers 0 .. 9: groups, facts, countries", TermsTest::smallNumbers);
        due.test("Promise 3, numbers are told as they are", TermsTest::values);
        due.test("Promise 3, names: one to eight letters", TermsTest::oneToEightLetters);
        due.test("Promise 3, names: nine letters", TermsTest::nineLetters);
        due.test("Promise 3, names: small letters alone", TermsTest::smallLettersAlone);
        due.test("Promise 3, conditions: < = > alone", TermsTest::signs);
        due.test("Promise 3, conditions: none or more, behind a branch alone", TermsTest::conditions);
        due.test("Promise 3, sentences: their first words", TermsTest::firstWords);
        due.end();
    }

    private static String of(int u) {
        return Character.toString((char) u);
    }

    private static boolean parts(int u) {
        return u == 32 || u == 10;
    }

    /** What read answers when the word at # is wrong. */
    private static int wrongAt(String sentence) {
        return -1 - sentence.substring(0, sentence.indexOf('#')).split(" ").length;
    }

    private static void partingBytes() {
        for (int u = 0; u <= 255; u++) {
            due.reads("general" + of(u) + "5", parts(u) ? 1 : -1);
            due.reads(of(u) + "general 5", parts(u) ? 1 : -1);
            boolean digit = u >= '0' && u <= '9';
            due.reads("general 5" + of(u), parts(u) || digit ? 1 : -2);
        }
    }

    private static void manyBlanks() {
        due.reads("", 0);
        due.reads(" ", 0);
        due.reads("\n", 0);
        due.reads(" \n\n  \n", 0);
        due.reads("  general \n 5\n\n\ngeneral  6 ", 2);
        due.reads("\n\n x", -1);
        due.reads("general  \n ", -2);
    }

    private static void oneToSixDigits() {
        String[] numbers = {"0", "9", "00", "10", "99999", "000000", "000001", "100000", "999999"};
        for (String sentence : NUMBERS) {
            for (String number : numbers) {
                due.reads(sentence.replace("#", number), 1);
            }
        }
    }

    private static void sevenDigits() {
        String[] numbers = {"1000000", "0000000", "0000001", "9999999", "00000000", "4294967297"};
        for (String sentence : NUMBERS) {
            for (String number : numbers) {
                due.reads(sentence.replace("#", number), wrongAt(sentence));
            }
        }
    }

    private static void digitsAlone() {
        for (int u = 0; u <= 255; u++) {
            boolean digit = u >= '0' && u <= '9';
            if (!parts(u)) {
                due.reads("general " + of(u), digit ? 1 : -2);
                due.reads("general " + of(u) + "1", digit ? 1 : -2);
                due.reads("general 12345" + of(u), digit ? 1 : -2);
            }
        }
        String[] words = {"-1", "+1", "1.", "x", "/", ":", "1/", "1:"};
        for (String sentence : NUMBERS) {
            for (String word : words) {
                due.reads(sentence.replace("#", word), wrongAt(sentence));
            }
        }
    }

    private static void smallNumbers() {
        String[] right = {"0", "1", "8", "9", "00", "09", "000009"};
        String[] wrong = {"10", "11", "99", "010", "256", "999999", "0000009", "-1", "a", "/", ":"};
        for (String sentence : SMALL_NUMBERS) {
            for (String number : right) {
                due.reads(sentence.replace("#", number), 1);
            }
            for (String number : wrong) {
                due.reads(sentence.replace("#", number), wrongAt(sentence));
            }
        }
    }

    private static void values() {
        CodeRules x = Due.told("code 999999 9 general 000000 mirror 000012 999999 map 012 9 000030 999998 name 100000 oil");
        due.is("code()", x.code(), 999999);
        due.is("general(0)", x.general(0), true);
        due.is("mirror(12, true)", x.mirror(12, true), 999999);
        due.is("map(12, 9, 29)", x.map(12, 9, 29), 12);
        due.is("map(12, 9, 30)", x.map(12, 9, 30), 999998);
        Due.say(x, "oil");
        due.is("near(0)", x.near(0), 100000);
    }

    private static void oneToEightLetters() {
        due.reads("name 1 a", 1);
        due.reads("name 1 z", 1);
        due.reads("name 1 abcdefg", 1);
        due.reads("name 1 abcdefgh", 1);
        due.reads("name 1 zzzzzzzz", 1);
        due.reads("name 1 name name 2 code name 3 when", 3);
    }

    private static void nineLetters() {
        due.reads("name 1 abcdefghi", -3);
        due.reads("name 1 aaaaaaaaaaaaaaaa", -3);
    }

    private static void smallLettersAlone() {
        for (int u = 0; u <= 255; u++) {
            int want = u >= 'a' && u <= 'z' ? 1 : -3;
            if (!parts(u)) {
                due.reads("name 1 " + of(u), want);
                due.reads("name 1 " + of(u) + "b", want);
                due.reads("name 1 abcdefg" + of(u), want);
            }
        }
    }

    private static void signs() {
        for (int u = 0; u <= 255; u++) {
            if (!parts(u)) {
                due.reads("code 1 1 when 1 " + of(u) + " 1", u >= '<' && u <= '>' ? 1 : -6);
            }
        }
        String[] words = {"<=", ">=", "==", "<>", "=<", "when", "1"};
        for (String word : words) {
            due.reads("code 1 1 when 1 " + word + " 1", -6);
        }
    }

    private static void conditions() {
        due.reads("code 1 1", 1);
        due.reads("code 1 1 when 1 < 1", 1);
        due.reads("code 1 1 when 1 < 1 when 1 < 1 when 1 > 2 code 2 1 when 1 = 1", 2);
        due.reads("when 1 < 1", -1);
        due.reads("general 1 when 1 < 1", -3);
        due.reads("mirror 1 2 when 1 < 1", -4);
        due.reads("map 1 1 1 1 when 1 < 1", -6);
        due.reads("name 1 a when 1 < 1", -4);
        due.reads("code 1 1 general 1 when 1 < 1", -6);
        due.reads("code 1 1 whe 1 < 1", -4);
        due.reads("code 1 1 whenn 1 < 1", -4);
        due.reads("code 1 1 When 1 < 1", -4);
        due.reads("code 1 1 1", -4);
    }

    private static void firstWords() {
        String[] rests = {"code 1 1", "general 1", "mirror 1 2", "map 1 1 1 1", "name 1 a"};
        for (String rest : rests) {
            due.reads(rest, 1);
            due.reads(rest.substring(1), -1);
            due.reads("x" + rest, -1);
            due.reads(rest.replaceFirst(" ", "s "), -1);
            due.reads(rest.replaceFirst(". ", " "), -1);
            due.reads(rest.replaceFirst(" ", ""), -1);
            due.reads(Character.toUpperCase(rest.charAt(0)) + rest.substring(1), -1);
        }
        due.reads("1", -1);
        due.reads("general 1 1", -3);
    }
}
