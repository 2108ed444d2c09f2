/** Promise 2: the bytes of the text. */
public final class UnitTest {
    private static final Due due = new Due("UnitTest");
    private static final int[] NO_BYTES = {-1, 256, -256, 288, 65536 + 49, Integer.MIN_VALUE, Integer.MAX_VALUE};

    public static void main(String[] args) {
        due.test("Promise 2, each byte 0 .. 255 answers true", UnitTest::allBytes);
        due.test("Promise 2, below 0 and above 255 answers false", UnitTest::noBytes);
        due.test("Promise 2, a byte that is not such is not in the text", UnitTest::noByteIsNotInTheText);
        due.test("Promise 2, a byte that is not such changes nothing", UnitTest::noByteChangesNothing);
        due.test("Promise 2, a byte comes behind those of before", UnitTest::behindThoseOfBefore);
        due.test("Promise 2, the 899th byte and the 900th", UnitTest::below900);
        due.test("Promise 2, the 901st byte answers false", UnitTest::above900);
        due.test("Promise 2, the 901st byte changes nothing", UnitTest::above900ChangesNothing);
        due.test("Promise 2, refused bytes are not among the 900", UnitTest::refusedAreNotCounted);
        due.test("Promise 2, after read there may be 900 again", UnitTest::anew900);
        due.end();
    }

    private static void allBytes() {
        CodeRules x = new CodeRules();
        for (int u = 0; u <= 255; u++) {
            due.is("unit(" + u + ")", x.unit(u), true);
        }
    }

    private static void noBytes() {
        for (int u : NO_BYTES) {
            due.is("unit(" + u + ")", new CodeRules().unit(u), false);
        }
    }

    private static void noByteIsNotInTheText() {
        for (int u : NO_BYTES) {
            CodeRules x = new CodeRules();
            x.unit(u);
            due.is("read() after unit(" + u + ")", x.read(), 0);
            Due.say(x, "general 1");
            x.unit(u);
            Due.say(x, "2");
            due.is("read() with unit(" + u + ") inside", x.read(), 1);
            due.is("general(12)", x.general(12), true);
        }
    }

    private static void noByteChangesNothing() {
        for (int u : NO_BYTES) {
            Past.stays(due, Past::rich, x -> due.is("unit(" + u + ")", x.unit(u), false));
        }
    }

    private static void behindThoseOfBefore() {
        CodeRules x = new CodeRules();
        Due.say(x, "general 123");
        due.is("read()", x.read(), 1);
        due.is("general(123)", x.general(123), true);
    }

    // 900 bytes are more than the 512 calls for which the document promises answers. This program
    // keeps to the sentence there too, and these cases hold it to that.

    private static CodeRules full(int bytes, String last) {
        CodeRules x = new CodeRules();
        for (int i = 1; i <= bytes - last.length(); i++) {
            due.is("unit(32) as byte " + i, x.unit(32), true);
        }
        Due.say(x, last);
        return x;
    }

    private static void below900() {
        CodeRules x = full(898, "general 7");
        due.is("unit(49) as the 899th", x.unit(49), true);
        due.is("unit(50) as the 900th", x.unit(50), true);
        due.is("read()", x.read(), 1);
        due.is("general(712)", x.general(712), true);
    }

    private static void above900() {
        CodeRules x = full(900, "general 7");
        due.is("unit(49) as the 901st", x.unit(49), false);
        due.is("unit(0) as the 901st", x.unit(0), false);
        due.is("unit(255) as the 901st", x.unit(255), false);
        due.is("unit(256) as the 901st", x.unit(256), false);
        due.is("unit(-1) as the 901st", x.unit(-1), false);
    }

    private static void above900ChangesNothing() {
        CodeRules x = full(900, "general 7");
        x.unit(49);
        x.unit(32);
        due.is("read()", x.read(), 1);
        due.is("general(7)", x.general(7), true);
        due.is("general(71)", x.general(71), false);
        x = Due.told("name 5 a");
        Due.say(x, "a" + " ".repeat(899));
        due.is("unit(97) as the 901st", x.unit(97), false);
        due.is("near(0)", x.near(0), 5);
        due.is("edits(0)", x.edits(0), 0);
    }

    private static void refusedAreNotCounted() {
        CodeRules x = full(899, "general 7");
        for (int u : NO_BYTES) {
            due.is("unit(" + u + ")", x.unit(u), false);
        }
        due.is("unit(49) as the 900th", x.unit(49), true);
        due.is("unit(49) as the 901st", x.unit(49), false);
    }

    private static void anew900() {
        CodeRules x = full(900, "general 7");
        due.is("read()", x.read(), 1);
        for (int i = 1; i <= 900; i++) {
            due.is("unit(32) as byte " + i, x.unit(32), true);
        }
        due.is("unit(32) as the 901st", x.unit(32), false);
    }
}
