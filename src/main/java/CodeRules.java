/**
 * Codes of waste by rules told as texts. ../shared/DOC.md is the document; the numbers of its
 * promises stand at the methods. All rows are made with the object: no call makes another one.
 */
public final class CodeRules {
    public static final int NONE = -1;
    public static final int OPEN = -2;

    private static final int MOST_UNITS = 900;
    private static final int MOST_UNIT = 255;
    private static final int BLANK = 32;
    private static final int LINE_END = 10;
    private static final int MOST_DIGITS = 6;
    private static final int MOST_LETTERS = 8;
    private static final int NUMBERS = 1000000;

    private static final int MOST_BRANCHES = 30;
    private static final int MOST_CONDITIONS = 60;
    private static final int MOST_GENERALS = 16;
    private static final int MOST_MIRRORS = 16;
    private static final int MOST_MAPS = 20;
    private static final int MOST_NAMES = 20;

    private static final int GROUPS = 10;
    private static final int FACTS = 10;
    private static final int COUNTRIES = 10;
    private static final int ENDS = 6;
    private static final int PAPERS = 10;
    private static final int PERMITS = 6;
    private static final int SPANS = 5;
    private static final int PLACES = 8;
    private static final int MOST_HISTORY = 12;

    // What a branch's trial comes to; a fact that is asked for is OPEN less the fact, below both.
    private static final int FAILS = 0;
    private static final int FITS = 1;

    private final Text text;
    private final Facts facts;
    private final Papers papers;
    private final Permits permits;
    private final Histories histories;
    private Rules rules;
    // A text is told into this one first, so that a wrong text leaves the rules as they were.
    private Rules draft;

    /** Promise 1. */
    public CodeRules() {
        text = new Text();
        facts = new Facts();
        papers = new Papers();
        permits = new Permits();
        histories = new Histories();
        rules = new Rules();
        draft = new Rules();
    }

    /** Promise 2. */
    public boolean unit(int u) {
        return text.append(u);
    }

    /** Promise 3. */
    public int read() {
        int told = draft.tell(text);
        text.empty();
        if (told < 0) {
            return told;
        }
        Rules before = rules;
        rules = draft;
        draft = before;
        papers.forget();
        return told;
    }

    /** Promise 4. */
    public boolean fact(int name, int v) {
        return facts.learn(name, v);
    }

    /** Promise 5. */
    public int clearFacts() {
        return facts.forget();
    }

    /** Promise 6. */
    public int code() {
        int outcome = rules.outcome(facts);
        return outcome <= OPEN ? OPEN : rules.branches.codeAt(outcome);
    }

    /** Promise 7. */
    public int taken() {
        int outcome = rules.outcome(facts);
        return outcome <= OPEN ? OPEN : outcome;
    }

    /** Promise 8. */
    public int asks() {
        int outcome = rules.outcome(facts);
        return outcome <= OPEN ? OPEN - outcome : NONE;
    }

    /** Promise 9. */
    public boolean general(int code) {
        return rules.codes.isGeneral(code);
    }

    /** Promise 10. */
    public int mirror(int code, boolean hazard) {
        return rules.codes.mirrorOf(code, hazard);
    }

    /** Promise 11. */
    public int map(int code, int country, int day) {
        if (!isNumber(code) || !isBelow(country, COUNTRIES) || !isNumber(day)) {
            return NONE;
        }
        return rules.codes.nationalCode(code, country, day);
    }

    /** Promise 12. */
    public int near(int k) {
        return rules.names.codeAt(nearest(k));
    }

    /** Promise 13. */
    public int edits(int k) {
        return rules.names.distanceAt(nearest(k));
    }

    /** Promise 14. */
    public boolean needs(int end, int paper) {
        return papers.demand(end, paper);
    }

    /** Promise 15. */
    public boolean paper(int end, int paper) {
        return papers.bring(end, paper);
    }

    /** Promise 16. */
    public int lacks(int end, int k) {
        return papers.missing(end, k);
    }

    /** Promise 17. */
    public int permit() {
        return permits.grant();
    }

    /** Promise 18. */
    public boolean allows(int permit, int from, int to) {
        return permits.addSpan(permit, from, to);
    }

    /** Promise 19. */
    public int check(int permit, int code) {
        return permits.covers(permit, code);
    }

    /** Promise 20. */
    public int put(int place) {
        // The place comes first: one that can take nothing answers NONE while a fact is asked for too.
        if (!histories.hasRoom(place)) {
            return NONE;
        }
        int now = code();
        if (now >= 0) {
            histories.append(place, now);
        }
        return now;
    }

    /** Promise 21. */
    public int history(int place, int k) {
        return histories.recall(place, k);
    }

    /** The place in the names' row of the k-th one by edits from the text's first word, or NONE. */
    private int nearest(int k) {
        text.toFirstWord();
        if (!text.isName()) {
            return NONE;
        }
        return rules.names.nearestTo(text, k);
    }

    private static boolean isBelow(int value, int bound) {
        return value >= 0 && value < bound;
    }

    private static boolean isNumber(int value) {
        return isBelow(value, NUMBERS);
    }

    /** The bytes of the text, and one word of it at hand. */
    private static final class Text {
        private final int[] units = new int[MOST_UNITS];
        private int size;
        private int start;
        private int end;
        private int wordNumber;

        boolean append(int u) {
            if (u < 0 || u > MOST_UNIT || size >= units.length) {
                return false;
            }
            // Line ends part words as blanks do, and no call answers a byte of the text.
            units[size] = u == LINE_END ? BLANK : u;
            size++;
            return true;
        }

        void empty() {
            size = 0;
        }

        void toFirstWord() {
            end = 0;
            wordNumber = NONE;
            toNextWord();
        }

        /** Behind the last word the word at hand is empty, and its number is how many words there are. */
        void toNextWord() {
            start = end;
            while (start < size && units[start] == BLANK) {
                start++;
            }
            end = start;
            while (end < size && units[end] != BLANK) {
                end++;
            }
            wordNumber++;
        }

        boolean isOver() {
            return start >= size;
        }

        int wordNumber() {
            return wordNumber;
        }

        int length() {
            return end - start;
        }

        /** The i-th byte of the word at hand; NONE, which no byte is, outside of it. */
        int byteAt(int i) {
            if (i < 0 || i >= end - start) {
                return NONE;
            }
            return units[start + i];
        }

        boolean says(String word) {
            if (word.length() != length()) {
                return false;
            }
            for (int i = 0; i < word.length(); i++) {
                if (word.charAt(i) != byteAt(i)) {
                    return false;
                }
            }
            return true;
        }

        boolean isName() {
            if (length() < 1 || length() > MOST_LETTERS) {
                return false;
            }
            for (int i = 0; i < length(); i++) {
                if (byteAt(i) < 'a' || byteAt(i) > 'z') {
                    return false;
                }
            }
            return true;
        }

        /** Goes on to the next word: the number that it is, when it is one below a bound; else NONE. */
        int nextNumber(int bound) {
            toNextWord();
            if (length() < 1 || length() > MOST_DIGITS) {
                return NONE;
            }
            int value = 0;
            for (int i = 0; i < length(); i++) {
                int digit = byteAt(i) - '0';
                if (digit < 0 || digit > 9) {
                    return NONE;
                }
                value = value * 10 + digit;
            }
            return value < bound ? value : NONE;
        }
    }

    /** All sentences of one text. */
    private static final class Rules {
        private final Branches branches = new Branches();
        private final Codes codes = new Codes();
        private final Names names = new Names();

        /** How many sentences the text tells, or -1 less the number of its first wrong word. */
        int tell(Text text) {
            branches.forget();
            codes.forget();
            names.forget();
            text.toFirstWord();
            int told = 0;
            // A sentence has two bytes at least, so the text is over before the counter is.
            while (told < MOST_UNITS && !text.isOver()) {
                if (!takeSentence(text)) {
                    return -1 - text.wordNumber();
                }
                told++;
            }
            return told;
        }

        // The methods that take words stop at the first word that is wrong, and answer false:
        // so the word at hand tells then which one it was.

        private boolean takeSentence(Text text) {
            if (text.says("code")) {
                return takeBranch(text);
            }
            if (text.says("general")) {
                return takeGeneral(text);
            }
            if (text.says("mirror")) {
                return takeMirror(text);
            }
            if (text.says("map")) {
                return takeMap(text);
            }
            return text.says("name") && takeName(text);
        }

        private boolean takeBranch(Text text) {
            if (branches.isFull()) {
                return false;
            }
            int code = text.nextNumber(NUMBERS);
            if (code == NONE) {
                return false;
            }
            int group = text.nextNumber(GROUPS);
            if (group == NONE) {
                return false;
            }
            branches.add(code, group);
            text.toNextWord();
            for (int i = 0; i <= MOST_CONDITIONS && text.says("when"); i++) {
                if (!takeCondition(text)) {
                    return false;
                }
            }
            return true;
        }

        private boolean takeCondition(Text text) {
            if (branches.hasAllConditions()) {
                return false;
            }
            int fact = text.nextNumber(FACTS);
            if (fact == NONE) {
                return false;
            }
            text.toNextWord();
            if (!text.says("<") && !text.says("=") && !text.says(">")) {
                return false;
            }
            int operator = text.byteAt(0);
            int value = text.nextNumber(NUMBERS);
            if (value == NONE) {
                return false;
            }
            branches.addCondition(fact, operator, value);
            text.toNextWord();
            return true;
        }

        private boolean takeGeneral(Text text) {
            if (codes.hasAllGenerals()) {
                return false;
            }
            int code = text.nextNumber(NUMBERS);
            if (code == NONE) {
                return false;
            }
            codes.addGeneral(code);
            text.toNextWord();
            return true;
        }

        private boolean takeMirror(Text text) {
            if (codes.hasAllMirrors()) {
                return false;
            }
            int harmless = text.nextNumber(NUMBERS);
            if (harmless == NONE || codes.isMirrored(harmless)) {
                return false;
            }
            int hazardous = text.nextNumber(NUMBERS);
            if (hazardous == NONE || hazardous == harmless || codes.isMirrored(hazardous)) {
                return false;
            }
            codes.addMirror(harmless, hazardous);
            text.toNextWord();
            return true;
        }

        private boolean takeMap(Text text) {
            if (codes.hasAllMaps()) {
                return false;
            }
            int code = text.nextNumber(NUMBERS);
            if (code == NONE) {
                return false;
            }
            int country = text.nextNumber(COUNTRIES);
            if (country == NONE) {
                return false;
            }
            int day = text.nextNumber(NUMBERS);
            if (day == NONE) {
                return false;
            }
            int national = text.nextNumber(NUMBERS);
            if (national == NONE) {
                return false;
            }
            codes.addMap(code, country, day, national);
            text.toNextWord();
            return true;
        }

        private boolean takeName(Text text) {
            if (names.isFull()) {
                return false;
            }
            int code = text.nextNumber(NUMBERS);
            if (code == NONE) {
                return false;
            }
            text.toNextWord();
            if (!text.isName() || names.has(text)) {
                return false;
            }
            names.add(code, text);
            text.toNextWord();
            return true;
        }

        /** The number of the branch that is taken; NONE; or OPEN less the fact that is asked for. */
        int outcome(Facts facts) {
            int first = firstFit(0, NONE, facts);
            if (first < 0 || !codes.isGeneral(branches.codeAt(first))) {
                return first;
            }
            int special = firstFit(first + 1, branches.groupAt(first), facts);
            return special == NONE ? first : special;
        }

        /** With a group only its branches to special codes are tried; with NONE all are. */
        private int firstFit(int from, int group, Facts facts) {
            for (int branch = from; branch < branches.count(); branch++) {
                if (group == NONE || isSpecial(branch, group)) {
                    int met = branches.meet(branch, facts);
                    if (met != FAILS) {
                        return met == FITS ? branch : met;
                    }
                }
            }
            return NONE;
        }

        private boolean isSpecial(int branch, int group) {
            return branches.groupAt(branch) == group && !codes.isGeneral(branches.codeAt(branch));
        }
    }

    /** The branches in their order, with their conditions in one row. */
    private static final class Branches {
        private final int[] targets = new int[MOST_BRANCHES];
        private final int[] groups = new int[MOST_BRANCHES];
        // Where a branch's conditions end in their row: they begin where those of the one before end.
        private final int[] ends = new int[MOST_BRANCHES];
        private final int[] asked = new int[MOST_CONDITIONS];
        private final int[] operators = new int[MOST_CONDITIONS];
        private final int[] values = new int[MOST_CONDITIONS];
        private int count;
        private int conditions;

        void forget() {
            count = 0;
            conditions = 0;
        }

        int count() {
            return count;
        }

        boolean isFull() {
            return count >= MOST_BRANCHES;
        }

        boolean hasAllConditions() {
            return conditions >= MOST_CONDITIONS;
        }

        void add(int code, int group) {
            if (isFull()) {
                return;
            }
            targets[count] = code;
            groups[count] = group;
            ends[count] = conditions;
            count++;
        }

        /** One more condition of the latest branch. */
        void addCondition(int fact, int operator, int value) {
            if (hasAllConditions() || count < 1 || count > MOST_BRANCHES) {
                return;
            }
            asked[conditions] = fact;
            operators[conditions] = operator;
            values[conditions] = value;
            conditions++;
            ends[count - 1] = conditions;
        }

        int codeAt(int branch) {
            return isBelow(branch, count) ? targets[branch] : NONE;
        }

        int groupAt(int branch) {
            return isBelow(branch, count) ? groups[branch] : NONE;
        }

        /** FITS, FAILS, or OPEN less the fact that is asked for. */
        int meet(int branch, Facts facts) {
            if (!isBelow(branch, count)) {
                return FAILS;
            }
            int from = branch == 0 ? 0 : ends[branch - 1];
            for (int c = from; c < ends[branch] && c < conditions; c++) {
                if (!facts.isKnown(asked[c])) {
                    return OPEN - asked[c];
                }
                if (!compare(facts.valueOf(asked[c]), operators[c], values[c])) {
                    return FAILS;
                }
            }
            return FITS;
        }

        private static boolean compare(int value, int operator, int bound) {
            if (operator == '<') {
                return value < bound;
            }
            return operator == '=' ? value == bound : value > bound;
        }
    }

    /** What the sentences tell of codes: general ones, mirrors, national ones. */
    private static final class Codes {
        private final int[] generals = new int[MOST_GENERALS];
        private final int[] harmless = new int[MOST_MIRRORS];
        private final int[] hazardous = new int[MOST_MIRRORS];
        private final int[] mapped = new int[MOST_MAPS];
        private final int[] countries = new int[MOST_MAPS];
        private final int[] days = new int[MOST_MAPS];
        private final int[] nationals = new int[MOST_MAPS];
        private int generalCount;
        private int mirrorCount;
        private int mapCount;

        void forget() {
            generalCount = 0;
            mirrorCount = 0;
            mapCount = 0;
        }

        boolean hasAllGenerals() {
            return generalCount >= MOST_GENERALS;
        }

        boolean hasAllMirrors() {
            return mirrorCount >= MOST_MIRRORS;
        }

        boolean hasAllMaps() {
            return mapCount >= MOST_MAPS;
        }

        void addGeneral(int code) {
            if (hasAllGenerals()) {
                return;
            }
            generals[generalCount] = code;
            generalCount++;
        }

        void addMirror(int without, int with) {
            if (hasAllMirrors()) {
                return;
            }
            harmless[mirrorCount] = without;
            hazardous[mirrorCount] = with;
            mirrorCount++;
        }

        void addMap(int code, int country, int day, int national) {
            if (hasAllMaps()) {
                return;
            }
            mapped[mapCount] = code;
            countries[mapCount] = country;
            days[mapCount] = day;
            nationals[mapCount] = national;
            mapCount++;
        }

        boolean isGeneral(int code) {
            for (int i = 0; i < generalCount; i++) {
                if (generals[i] == code) {
                    return true;
                }
            }
            return false;
        }

        boolean isMirrored(int code) {
            return mirrorOf(code, true) != NONE;
        }

        int mirrorOf(int code, boolean hazard) {
            for (int i = 0; i < mirrorCount; i++) {
                if (harmless[i] == code || hazardous[i] == code) {
                    return hazard ? hazardous[i] : harmless[i];
                }
            }
            return NONE;
        }

        int nationalCode(int code, int country, int day) {
            int national = code;
            int latest = NONE;
            for (int i = 0; i < mapCount; i++) {
                boolean speaksOfIt = mapped[i] == code && countries[i] == country && days[i] <= day;
                // The same day counts too: of such sentences the later one is due.
                if (speaksOfIt && days[i] >= latest) {
                    latest = days[i];
                    national = nationals[i];
                }
            }
            return national;
        }
    }

    /** The names as they were told, their letters in one row of eight places a name. */
    private static final class Names {
        private final int[] targets = new int[MOST_NAMES];
        private final int[] lengths = new int[MOST_NAMES];
        private final int[] letters = new int[MOST_NAMES * MOST_LETTERS];
        private final int[] distances = new int[MOST_NAMES];
        private final int[] steps = new int[MOST_LETTERS + 1];
        private int count;

        void forget() {
            count = 0;
        }

        boolean isFull() {
            return count >= MOST_NAMES;
        }

        void add(int code, Text text) {
            if (isFull() || text.length() > MOST_LETTERS) {
                return;
            }
            targets[count] = code;
            lengths[count] = text.length();
            for (int i = 0; i < text.length(); i++) {
                letters[count * MOST_LETTERS + i] = text.byteAt(i);
            }
            count++;
        }

        boolean has(Text text) {
            for (int name = 0; name < count; name++) {
                if (isSame(name, text)) {
                    return true;
                }
            }
            return false;
        }

        int codeAt(int name) {
            return isBelow(name, count) ? targets[name] : NONE;
        }

        /** The edits of a name from the word for which nearestTo was asked last. */
        int distanceAt(int name) {
            return isBelow(name, count) ? distances[name] : NONE;
        }

        int nearestTo(Text text, int k) {
            for (int name = 0; name < count; name++) {
                distances[name] = distance(name, text);
            }
            for (int name = 0; name < count; name++) {
                if (rank(name) == k) {
                    return name;
                }
            }
            return NONE;
        }

        /** How many names stand before this one. */
        private int rank(int name) {
            int before = 0;
            for (int other = 0; other < count; other++) {
                boolean nearer = distances[other] < distances[name];
                boolean toldBefore = distances[other] == distances[name] && other < name;
                if (nearer || toldBefore) {
                    before++;
                }
            }
            return before;
        }

        private boolean isSame(int name, Text text) {
            if (lengths[name] != text.length()) {
                return false;
            }
            for (int i = 0; i < lengths[name]; i++) {
                if (letterAt(name, i) != text.byteAt(i)) {
                    return false;
                }
            }
            return true;
        }

        /** One row serves: steps[j] are the edits from the word's letters so far to the name's first j. */
        private int distance(int name, Text text) {
            int length = lengths[name];
            for (int j = 0; j <= length; j++) {
                steps[j] = j;
            }
            for (int i = 1; i <= text.length(); i++) {
                int diagonal = steps[0];
                steps[0] = i;
                for (int j = 1; j <= length; j++) {
                    int above = steps[j];
                    int changed = text.byteAt(i - 1) == letterAt(name, j - 1) ? diagonal : diagonal + 1;
                    steps[j] = Math.min(changed, Math.min(above, steps[j - 1]) + 1);
                    diagonal = above;
                }
            }
            return steps[length];
        }

        private int letterAt(int name, int i) {
            return letters[name * MOST_LETTERS + i];
        }
    }

    /** Which facts are known, and as what. */
    private static final class Facts {
        private final boolean[] known = new boolean[FACTS];
        private final int[] values = new int[FACTS];

        boolean learn(int name, int v) {
            if (!isBelow(name, FACTS)) {
                return false;
            }
            known[name] = true;
            values[name] = v;
            return true;
        }

        int forget() {
            int were = 0;
            for (int name = 0; name < FACTS; name++) {
                if (known[name]) {
                    were++;
                }
                known[name] = false;
            }
            return were;
        }

        boolean isKnown(int name) {
            return isBelow(name, FACTS) && known[name];
        }

        int valueOf(int name) {
            return isBelow(name, FACTS) ? values[name] : 0;
        }
    }

    /** The papers that ends need and those that are there, a bit a paper. */
    private static final class Papers {
        private final int[] needed = new int[ENDS];
        private final int[] there = new int[ENDS];

        void forget() {
            for (int end = 0; end < ENDS; end++) {
                needed[end] = 0;
                there[end] = 0;
            }
        }

        boolean demand(int end, int paper) {
            if (!isBelow(end, ENDS) || !isBelow(paper, PAPERS) || isIn(needed[end], paper)) {
                return false;
            }
            needed[end] |= 1 << paper;
            return true;
        }

        boolean bring(int end, int paper) {
            if (!isBelow(end, ENDS) || !isBelow(paper, PAPERS)) {
                return false;
            }
            there[end] |= 1 << paper;
            return lacking(end) == 0;
        }

        int missing(int end, int k) {
            if (!isBelow(end, ENDS)) {
                return NONE;
            }
            int before = 0;
            for (int paper = 0; paper < PAPERS; paper++) {
                if (isIn(lacking(end), paper)) {
                    if (before == k) {
                        return paper;
                    }
                    before++;
                }
            }
            return NONE;
        }

        private int lacking(int end) {
            return needed[end] & ~there[end];
        }

        private static boolean isIn(int papers, int paper) {
            return (papers >> paper & 1) == 1;
        }
    }

    /** The permits with their spans of codes, five places a permit. */
    private static final class Permits {
        private final int[] spanCounts = new int[PERMITS];
        private final int[] firsts = new int[PERMITS * SPANS];
        private final int[] lasts = new int[PERMITS * SPANS];
        private int count;

        int grant() {
            if (count >= PERMITS) {
                return NONE;
            }
            count++;
            return count - 1;
        }

        boolean addSpan(int permit, int from, int to) {
            if (!isBelow(permit, count) || !isNumber(from) || !isNumber(to) || from > to) {
                return false;
            }
            if (spanCounts[permit] >= SPANS) {
                return false;
            }
            int at = permit * SPANS + spanCounts[permit];
            firsts[at] = from;
            lasts[at] = to;
            spanCounts[permit]++;
            return true;
        }

        int covers(int permit, int code) {
            if (!isBelow(permit, count)) {
                return NONE;
            }
            for (int span = 0; span < spanCounts[permit]; span++) {
                int at = permit * SPANS + span;
                if (firsts[at] <= code && code <= lasts[at]) {
                    return 1;
                }
            }
            return 0;
        }
    }

    /** The codes that places had, twelve places in the row for each. */
    private static final class Histories {
        private final int[] counts = new int[PLACES];
        private final int[] had = new int[PLACES * MOST_HISTORY];

        /** Whether there is such a place, and it had fewer than twelve. */
        boolean hasRoom(int place) {
            return isBelow(place, PLACES) && counts[place] < MOST_HISTORY;
        }

        void append(int place, int code) {
            if (!hasRoom(place)) {
                return;
            }
            had[place * MOST_HISTORY + counts[place]] = code;
            counts[place]++;
        }

        int recall(int place, int k) {
            if (!isBelow(place, PLACES) || !isBelow(k, counts[place])) {
                return NONE;
            }
            return had[place * MOST_HISTORY + counts[place] - 1 - k];
        }
    }
}
