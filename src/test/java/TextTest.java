/** Promises 1 and 2: a new object, and the text's bytes. */
public final class TextTest {
    private static final Due due = new Due("TextTest");

    public static void main(String[] args) {
        newObject();
        bytes();
        mostBytes();
        due.end();
    }

    private static void newObject() {
        CodeRules x = new CodeRules();
        due.is("NONE", CodeRules.NONE, -1);
        due.is("OPEN", CodeRules.OPEN, -2);
        due.is("code()", x.code(), -1);
        due.is("taken()", x.taken(), -1);
        due.is("asks()", x.asks(), -1);
        due.is("clearFacts()", x.clearFacts(), 0);
        due.is("general(0)", x.general(0), false);
        due.is("mirror(0, false)", x.mirror(0, false), -1);
        due.is("map(0, 0, 0)", x.map(0, 0, 0), 0);
        due.is("near(0)", x.near(0), -1);
        due.is("edits(0)", x.edits(0), -1);
        for (int end = 0; end < 6; end++) {
            due.is("lacks(end, 0)", x.lacks(end, 0), -1);
        }
        due.is("check(0, 0)", x.check(0, 0), -1);
        for (int place = 0; place < 8; place++) {
            due.is("history(place, 0)", x.history(place, 0), -1);
        }
        due.is("read()", x.read(), 0);
    }

    private static void bytes() {
        CodeRules x = new CodeRules();
        due.is("unit(-1)", x.unit(-1), false);
        due.is("unit(256)", x.unit(256), false);
        due.is("unit(min)", x.unit(Integer.MIN_VALUE), false);
        due.is("unit(max)", x.unit(Integer.MAX_VALUE), false);
        due.is("read() after refused bytes", x.read(), 0);
        due.is("unit(0)", x.unit(0), true);
        due.is("unit(255)", x.unit(255), true);
        due.is("read() of a wrong word", x.read(), -1);
        // Bytes 0, 9 and 13 part no words.
        due.is("read() with byte 9", Due.read(x, "general\t5"), -1);
        due.is("read() with byte 13", Due.read(x, "general 5\r\n"), -2);
        due.is("read() with byte 0", Due.read(x, "general 5\0"), -2);
        due.is("read() with byte 10", Due.read(x, "\n general\n\n5 \n"), 1);
    }

    private static void mostBytes() {
        CodeRules x = new CodeRules();
        for (int i = 0; i < 891; i++) {
            due.is("unit(32)", x.unit(32), true);
        }
        Due.say(x, "general 7");
        due.is("unit(49) as the 901st", x.unit(49), false);
        due.is("read()", x.read(), 1);
        due.is("general(7)", x.general(7), true);
        due.is("general(71)", x.general(71), false);
        due.is("unit(32) after read", x.unit(32), true);
    }
}
