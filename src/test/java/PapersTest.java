/** Promises 14 to 16: papers that ends of waste need. */
public final class PapersTest {
    private static final Due due = new Due("PapersTest");

    public static void main(String[] args) {
        wrongOnes();
        lackingByNumbers();
        endsAreApart();
        due.end();
    }

    private static void wrongOnes() {
        CodeRules x = new CodeRules();
        int[][] wrong = {{-1, 0}, {6, 0}, {0, -1}, {0, 10}, {Integer.MIN_VALUE, 0}, {0, Integer.MAX_VALUE}, {0, 32}};
        for (int[] pair : wrong) {
            due.is("needs of a wrong pair", x.needs(pair[0], pair[1]), false);
            due.is("paper of a wrong pair", x.paper(pair[0], pair[1]), false);
        }
        due.is("needs(5, 9)", x.needs(5, 9), true);
        due.is("needs(5, 9) again", x.needs(5, 9), false);
        due.is("lacks(5, 0)", x.lacks(5, 0), 9);
        due.is("lacks(-1, 0)", x.lacks(-1, 0), -1);
        due.is("lacks(6, 0)", x.lacks(6, 0), -1);
        due.is("lacks(0, 0)", x.lacks(0, 0), -1);
        due.is("paper(5, 9)", x.paper(5, 9), true);
        due.is("needs(5, 9), it still needs it", x.needs(5, 9), false);
    }

    private static void lackingByNumbers() {
        CodeRules x = new CodeRules();
        int[] papers = {7, 0, 9, 3};
        for (int paper : papers) {
            due.is("needs(2, paper)", x.needs(2, paper), true);
        }
        int[] sorted = {0, 3, 7, 9};
        for (int k = 0; k < sorted.length; k++) {
            due.is("lacks(2, k)", x.lacks(2, k), sorted[k]);
        }
        due.is("lacks(2, 4)", x.lacks(2, 4), -1);
        due.is("lacks(2, -1)", x.lacks(2, -1), -1);
        due.is("paper(2, 3)", x.paper(2, 3), false);
        due.is("lacks(2, 1)", x.lacks(2, 1), 7);
        due.is("paper(2, 5)", x.paper(2, 5), false);
        due.is("paper(2, 9)", x.paper(2, 9), false);
        due.is("paper(2, 0)", x.paper(2, 0), false);
        due.is("paper(2, 7)", x.paper(2, 7), true);
        due.is("paper(2, 7) again", x.paper(2, 7), true);
        due.is("lacks(2, 0)", x.lacks(2, 0), -1);
        due.is("needs(2, 5), which is there", x.needs(2, 5), true);
        due.is("lacks(2, 0)", x.lacks(2, 0), -1);
        due.is("needs(2, 6)", x.needs(2, 6), true);
        due.is("paper(2, 7) does not do", x.paper(2, 7), false);
    }

    private static void endsAreApart() {
        CodeRules x = new CodeRules();
        x.needs(0, 1);
        x.needs(1, 1);
        due.is("paper(0, 1)", x.paper(0, 1), true);
        due.is("lacks(0, 0)", x.lacks(0, 0), -1);
        due.is("lacks(1, 0)", x.lacks(1, 0), 1);
    }
}
