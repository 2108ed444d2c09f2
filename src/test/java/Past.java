import java.util.ArrayList;
import java.util.List;
import java.util.function.Consumer;
import java.util.function.Supplier;

/**
 * A call that is refused changes nothing: two objects are given the same past, one of them then gets
 * calls that are refused, and all that is asked of both afterwards must be answered alike. Past,
 * refused calls and questions together stay below the 512 calls of an object.
 */
final class Past {
    private final List<String> calls = new ArrayList<>();
    private final List<Integer> answers = new ArrayList<>();
    private final CodeRules x;

    private Past(CodeRules x) {
        this.x = x;
    }

    /** Something of everything: code 6 is taken instead of the general 5, and a new text has begun. */
    static CodeRules rich() {
        CodeRules x = richWithoutText();
        Due.say(x, "name 4");
        return x;
    }

    static CodeRules richWithoutText() {
        CodeRules x = Due.told("code 5 1 when 0 < 3 code 6 1 when 1 = 2 code 9 2 general 5 mirror 1 2 map 3 1 4 8 name 7 tin");
        x.fact(0, 2);
        x.fact(1, 2);
        x.needs(0, 3);
        x.needs(0, 9);
        x.needs(5, 0);
        x.paper(0, 3);
        x.paper(2, 4);
        x.permit();
        x.permit();
        x.allows(0, 10, 20);
        x.allows(1, 30, 30);
        x.put(0);
        x.put(7);
        return x;
    }

    static void stays(Due due, Supplier<CodeRules> past, Consumer<CodeRules> refused) {
        CodeRules touched = past.get();
        refused.accept(touched);
        same(due, touched, past.get());
    }

    static void same(Due due, CodeRules touched, CodeRules untouched) {
        Past got = new Past(touched);
        Past want = new Past(untouched);
        got.askAll();
        want.askAll();
        for (int i = 0; i < want.calls.size(); i++) {
            due.is("then " + want.calls.get(i), got.answers.get(i), want.answers.get(i));
        }
    }

    /** The questions that change something come behind those on which that could tell. */
    private void askAll() {
        askSentences();
        askPlaces();
        askPapers();
        askText();
        askFacts();
        askPermits();
    }

    private void is(String call, int answer) {
        calls.add(call);
        answers.add(answer);
    }

    private void is(String call, boolean answer) {
        is(call, answer ? 1 : 0);
    }

    private void askSentences() {
        is("code()", x.code());
        is("taken()", x.taken());
        is("asks()", x.asks());
        is("general(5)", x.general(5));
        is("general(6)", x.general(6));
        is("mirror(1, true)", x.mirror(1, true));
        is("mirror(2, false)", x.mirror(2, false));
        is("mirror(3, true)", x.mirror(3, true));
        is("map(3, 1, 3)", x.map(3, 1, 3));
        is("map(3, 1, 4)", x.map(3, 1, 4));
        is("near(0)", x.near(0));
        is("near(1)", x.near(1));
        is("edits(0)", x.edits(0));
    }

    private void askPlaces() {
        for (int place = 0; place < 8; place++) {
            is("put(" + place + ")", x.put(place));
            for (int k = 0; k < 3; k++) {
                is("history(" + place + ", " + k + ")", x.history(place, k));
            }
            is("history(" + place + ", 11)", x.history(place, 11));
        }
    }

    private void askPapers() {
        for (int end = 0; end < 6; end++) {
            is("lacks(" + end + ", 0)", x.lacks(end, 0));
            is("lacks(" + end + ", 1)", x.lacks(end, 1));
            for (int paper = 0; paper < 10; paper += 3) {
                is("needs(" + end + ", " + paper + ")", x.needs(end, paper));
            }
            is("needs(" + end + ", 4)", x.needs(end, 4));
            is("lacks(" + end + ", 3)", x.lacks(end, 3));
            is("lacks(" + end + ", 4)", x.lacks(end, 4));
        }
    }

    private void askText() {
        Due.say(x, "2 t");
        is("read() of the text with '2 t' behind it", x.read());
        Due.say(x, "t");
        is("near(0) of t", x.near(0));
        is("edits(0) of t", x.edits(0));
        x.read();
    }

    private void askFacts() {
        String[] conditions = {"0 = 2", "1 = 2", "2 = 0"};
        for (String condition : conditions) {
            Due.read(x, "code 1 1 when " + condition);
            is("taken() when " + condition, x.taken());
        }
        is("clearFacts()", x.clearFacts());
    }

    private void askPermits() {
        int[] codes = {9, 10, 20, 21, 30};
        for (int permit = 0; permit < 3; permit++) {
            for (int code : codes) {
                is("check(" + permit + ", " + code + ")", x.check(permit, code));
            }
        }
        is("permit()", x.permit());
        for (int permit = 0; permit < 3; permit++) {
            for (int span = 1; span < 6; span++) {
                is("allows(" + permit + ", 1, 1)", x.allows(permit, 1, 1));
            }
        }
    }
}
