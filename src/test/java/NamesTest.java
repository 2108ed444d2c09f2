/** Promises 12 and 13: the names nearest to the text's first word, and their edits. */
public final class NamesTest {
    private static final Due due = new Due("NamesTest");

    public static void main(String[] args) {
        order();
        distances();
        firstWord();
        wrongWords();
        due.end();
    }

    private static void order() {
        CodeRules x = Due.told("name 1 glass name 2 oil name 3 oils name 4 soil name 5 il");
        Due.say(x, "oil");
        int[] codes = {2, 3, 4, 5, 1};
        int[] edits = {0, 1, 1, 1, 5};
        for (int k = 0; k < codes.length; k++) {
            due.is("near(" + k + ")", x.near(k), codes[k]);
            due.is("edits(" + k + ")", x.edits(k), edits[k]);
        }
        int[] none = {-1, 5, Integer.MIN_VALUE, Integer.MAX_VALUE};
        for (int k : none) {
            due.is("near(" + k + ")", x.near(k), -1);
            due.is("edits(" + k + ")", x.edits(k), -1);
        }
    }

    private static void distance(String word, String name, int want) {
        CodeRules x = Due.told("name 1 " + name);
        Due.say(x, word);
        due.is("edits(0) of " + word + " and " + name, x.edits(0), want);
    }

    private static void distances() {
        distance("kitten", "sitting", 3);
        distance("sitting", "kitten", 3);
        distance("ab", "ba", 2);
        distance("a", "abcdefgh", 7);
        distance("abcdefgh", "z", 8);
        distance("abcdefgh", "bcdefgha", 2);
        distance("intent", "execute", 6);
        distance("plaster", "platers", 2);
        distance("same", "same", 0);
    }

    private static void firstWord() {
        CodeRules x = Due.told("name 1 tin name 2 tar");
        due.is("near(0) after read", x.near(0), -1);
        Due.say(x, " \n");
        due.is("near(0) of blanks", x.near(0), -1);
        Due.say(x, "ta");
        due.is("near(0) of ta", x.near(0), 2);
        due.is("edits(0) of ta", x.edits(0), 1);
        Due.say(x, "r\ntin");
        due.is("near(0) of tar", x.near(0), 2);
        due.is("edits(0) of tar", x.edits(0), 0);
        due.is("near(1) of tar", x.near(1), 1);
        due.is("read(), near takes nothing of the text", x.read(), -1);
    }

    private static void wrongWord(String word) {
        CodeRules x = Due.told("name 1 tin");
        Due.say(x, word);
        due.is("near(0) of '" + word + "'", x.near(0), -1);
        due.is("edits(0) of '" + word + "'", x.edits(0), -1);
    }

    private static void wrongWords() {
        wrongWord("abcdefghi");
        wrongWord("Tin");
        wrongWord("1 tin");
        wrongWord("tin1");
        wrongWord("tin\t");
    }
}
