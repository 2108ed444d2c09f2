/** Promises 12 and 13: the names nearest to the text's first word, and their edits. */
public final class NamesTest {
    private static final Due due = new Due("NamesTest");

    public static void main(String[] args) {
        due.test("Promises 12 and 13, in an order by edits, of the same as told", NamesTest::order);
        due.test("Promises 12 and 13, k below 0 and behind the last name", NamesTest::noSuchK);
        due.test("Promises 12 and 13, no names", NamesTest::noNames);
        due.test("Promises 12 and 13, twenty names", NamesTest::twentyNames);
        due.test("Promises 12 and 13, twenty names of the same edits", NamesTest::twentyOfTheSame);
        due.test("Promises 12 and 13, twenty names of eight letters", NamesTest::twentyLongNames);
        due.test("Promises 12 and 13, codes 0 and 999999", NamesTest::codes);
        due.test("Promise 13, letters put in, taken out, changed", NamesTest::distances);
        due.test("Promise 13, words of 1 and of 8 letters", NamesTest::shortAndLong);
        due.test("Promises 12 and 13, an empty text", NamesTest::emptyText);
        due.test("Promises 12 and 13, the first word alone", NamesTest::firstWordAlone);
        due.test("Promises 12 and 13, the text as it is now", NamesTest::asItIsNow);
        due.test("Promises 12 and 13, a first word of 8 letters and of 9", NamesTest::eightAndNine);
        due.test("Promises 12 and 13, a first word of other bytes", NamesTest::otherBytes);
        due.test("Promises 12 and 13, a text that is read is no more there", NamesTest::afterRead);
        due.test("Promises 12 and 13, they change nothing", NamesTest::changeNothing);
        due.end();
    }

    private static void isNone(CodeRules x, int k) {
        due.is("near(" + k + ")", x.near(k), -1);
        due.is("edits(" + k + ")", x.edits(k), -1);
    }

    private static void is(CodeRules x, int k, int code, int edits) {
        due.is("near(" + k + ")", x.near(k), code);
        due.is("edits(" + k + ")", x.edits(k), edits);
    }

    private static void order() {
        CodeRules x = Due.told("name 1 glass name 2 oil name 3 oils name 4 soil name 5 il");
        Due.say(x, "oil");
        is(x, 0, 2, 0);
        is(x, 1, 3, 1);
        is(x, 2, 4, 1);
        is(x, 3, 5, 1);
        is(x, 4, 1, 5);
        // Of the same edits neither the codes' order nor the letters' is the one: that of the telling is.
        x = Due.told("name 9 tin name 3 zin name 5 bin");
        Due.say(x, "pin");
        is(x, 0, 9, 1);
        is(x, 1, 3, 1);
        is(x, 2, 5, 1);
    }

    private static void noSuchK() {
        CodeRules x = Due.told("name 1 a name 2 b");
        Due.say(x, "b");
        isNone(x, -1);
        is(x, 0, 2, 0);
        is(x, 1, 1, 1);
        isNone(x, 2);
        isNone(x, 20);
        isNone(x, Integer.MIN_VALUE);
        isNone(x, Integer.MAX_VALUE);
    }

    private static void noNames() {
        CodeRules x = Due.told("code 1 1");
        Due.say(x, "a");
        isNone(x, -1);
        isNone(x, 0);
        isNone(x, 1);
    }

    private static void twentyNames() {
        CodeRules x = Due.told(Due.row(20, "name # @a"));
        Due.say(x, "ta");
        is(x, 0, 19, 0);
        for (int k = 1; k < 20; k++) {
            is(x, k, k - 1, 1);
        }
        isNone(x, 20);
        isNone(x, -1);
    }

    private static void twentyOfTheSame() {
        CodeRules x = Due.told(Due.row(20, "name # @"));
        Due.say(x, "zz");
        for (int k = 0; k < 20; k++) {
            is(x, k, k, 2);
        }
        isNone(x, 20);
    }

    private static void twentyLongNames() {
        CodeRules x = Due.told(Due.row(20, "name # abcdefg@"));
        Due.say(x, "abcdefgt");
        is(x, 0, 19, 0);
        is(x, 1, 0, 1);
        is(x, 19, 18, 1);
        isNone(x, 20);
    }

    private static void codes() {
        CodeRules x = Due.told("name 0 a name 999999 b name 0 c");
        Due.say(x, "b");
        is(x, 0, 999999, 0);
        is(x, 1, 0, 1);
        is(x, 2, 0, 1);
    }

    private static void distance(String word, String name, int want) {
        CodeRules x = Due.told("name 1 " + name);
        Due.say(x, word);
        due.is("edits(0) of " + word + " and " + name, x.edits(0), want);
        x = Due.told("name 1 " + word);
        Due.say(x, name);
        due.is("edits(0) of " + name + " and " + word, x.edits(0), want);
    }

    private static void distances() {
        distance("same", "same", 0);
        distance("same", "lame", 1);
        distance("same", "sane", 1);
        distance("same", "samt", 1);
        distance("same", "ame", 1);
        distance("same", "sme", 1);
        distance("same", "sam", 1);
        distance("ab", "ba", 2);
        distance("abc", "cab", 2);
        distance("kitten", "sitting", 3);
        distance("intent", "execute", 6);
        distance("plaster", "platers", 2);
        distance("aaaa", "aa", 2);
        distance("abab", "baba", 2);
    }

    private static void shortAndLong() {
        distance("a", "a", 0);
        distance("a", "b", 1);
        distance("a", "abcdefgh", 7);
        distance("h", "abcdefgh", 7);
        distance("z", "abcdefgh", 8);
        distance("abcdefgh", "abcdefgh", 0);
        distance("abcdefgh", "ijklmnop", 8);
        distance("abcdefgh", "bcdefgha", 2);
        distance("abcdefgh", "abcdefg", 1);
        distance("abcdefgh", "hgfedcba", 8);
    }

    private static void emptyText() {
        CodeRules x = Due.told("name 1 a");
        isNone(x, 0);
        Due.say(x, " ");
        isNone(x, 0);
        Due.say(x, "\n ");
        isNone(x, 0);
        Due.say(x, "a");
        is(x, 0, 1, 0);
    }

    private static void firstWordAlone() {
        CodeRules x = Due.told("name 1 tin name 2 tar");
        Due.say(x, "\n tar tin 7 X");
        is(x, 0, 2, 0);
        is(x, 1, 1, 2);
        x.read();
        Due.say(x, "7 tar");
        isNone(x, 0);
        x.read();
        Due.say(x, "tar\ntin");
        is(x, 0, 2, 0);
    }

    private static void asItIsNow() {
        CodeRules x = Due.told("name 1 tin name 2 tarn name 3 a");
        Due.say(x, "t");
        is(x, 0, 3, 1);
        is(x, 1, 1, 2);
        is(x, 2, 2, 3);
        Due.say(x, "a");
        is(x, 0, 3, 1);
        is(x, 1, 1, 2);
        is(x, 2, 2, 2);
        Due.say(x, "r");
        is(x, 0, 2, 1);
        is(x, 1, 1, 2);
        is(x, 2, 3, 2);
        // The word is over: what comes behind it is another one.
        Due.say(x, " n");
        is(x, 0, 2, 1);
    }

    private static void eightAndNine() {
        CodeRules x = Due.told("name 1 abcdefgh");
        Due.say(x, "abcdefg");
        is(x, 0, 1, 1);
        Due.say(x, "h");
        is(x, 0, 1, 0);
        Due.say(x, "i");
        isNone(x, 0);
        Due.say(x, " abcdefgh");
        isNone(x, 0);
    }

    private static void otherBytes() {
        for (int u = 0; u <= 255; u++) {
            if (u != 32 && u != 10) {
                boolean letter = u >= 'a' && u <= 'z';
                firstWord(Character.toString((char) u), letter);
                firstWord("a" + (char) u, letter);
                firstWord((char) u + "bcdefgh", letter);
            }
        }
    }

    private static void firstWord(String word, boolean isName) {
        CodeRules x = Due.told("name 6 a");
        Due.say(x, word + " a");
        due.is("near(0) of '" + word + "'", x.near(0), isName ? 6 : -1);
        due.is("edits(0) of '" + word + "' is there", x.edits(0) >= 0, isName);
        if (!isName) {
            isNone(x, 0);
            isNone(x, -1);
        }
    }

    private static void afterRead() {
        CodeRules x = Due.told("name 1 tin");
        isNone(x, 0);
        Due.say(x, "tin");
        is(x, 0, 1, 0);
        due.is("read()", x.read(), -1);
        isNone(x, 0);
    }

    private static void changeNothing() {
        Past.stays(due, Past::rich, x -> {
            is(x, 0, 7, 4);
            isNone(x, 1);
            isNone(x, -1);
        });
        CodeRules x = Due.told("name 1 tin");
        Due.say(x, "general 5");
        is(x, 0, 1, 6);
        due.is("read(), the text is still whole", x.read(), 1);
        due.is("general(5)", x.general(5), true);
    }
}
