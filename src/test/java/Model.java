import java.util.ArrayList;
import java.util.Arrays;
import java.util.HashMap;
import java.util.LinkedHashMap;
import java.util.List;
import java.util.Map;
import java.util.TreeSet;
import java.util.stream.Collectors;
import java.util.stream.IntStream;

/**
 * The document once more, written with the Java library and in another way than CodeRules, so that
 * the two do not share a slip: sentences are matched as joined words, edits are found by recursion.
 */
final class Model {
    private static final class Wrong extends RuntimeException {
        private static final long serialVersionUID = 1L;
    }

    private static final class Branch {
        int code;
        int group;
        final List<int[]> conditions = new ArrayList<>();
    }

    private static final class Told {
        final List<Branch> branches = new ArrayList<>();
        final List<Integer> generals = new ArrayList<>();
        final List<int[]> mirrors = new ArrayList<>();
        final List<int[]> maps = new ArrayList<>();
        final Map<String, Integer> names = new LinkedHashMap<>();
        int sentences;
        int conditions;
    }

    private String text = "";
    private Told told = new Told();
    private final Map<Integer, Integer> facts = new HashMap<>();
    private final TreeSet<Integer> needed = new TreeSet<>();
    private final TreeSet<Integer> there = new TreeSet<>();
    private final List<List<int[]>> permits = new ArrayList<>();
    private final Map<Integer, List<Integer>> places = new HashMap<>();

    boolean unit(int u) {
        if (u < 0 || u > 255 || text.length() == 900) {
            return false;
        }
        text += (char) u;
        return true;
    }

    private List<String> words() {
        return Arrays.stream(text.split("[ \n]")).filter(word -> !word.isEmpty()).collect(Collectors.toList());
    }

    private List<String> words;
    private int at;

    int read() {
        words = words();
        at = 0;
        text = "";
        Told next = new Told();
        try {
            while (at < words.size()) {
                sentence(next);
                next.sentences++;
            }
        } catch (Wrong wrong) {
            return -1 - at;
        }
        told = next;
        needed.clear();
        there.clear();
        return told.sentences;
    }

    private void must(boolean holds) {
        if (!holds) {
            throw new Wrong();
        }
    }

    private int number(int most) {
        at++;
        must(at < words.size() && words.get(at).matches("(?s)[0-9]{1,6}"));
        int value = Integer.parseInt(words.get(at));
        must(value <= most);
        return value;
    }

    private void sentence(Told next) {
        switch (words.get(at)) {
            case "code": branch(next); break;
            case "general":
                must(next.generals.size() < 16);
                next.generals.add(number(999999));
                break;
            case "mirror": mirrorPair(next); break;
            case "map":
                must(next.maps.size() < 20);
                next.maps.add(new int[] {number(999999), number(9), number(999999), number(999999)});
                break;
            case "name":
                must(next.names.size() < 20);
                int code = number(999999);
                at++;
                must(at < words.size() && words.get(at).matches("[a-z]{1,8}") && !next.names.containsKey(words.get(at)));
                next.names.put(words.get(at), code);
                break;
            default: throw new Wrong();
        }
        at++;
    }

    private void branch(Told next) {
        must(next.branches.size() < 30);
        Branch branch = new Branch();
        branch.code = number(999999);
        branch.group = number(9);
        next.branches.add(branch);
        while (at + 1 < words.size() && words.get(at + 1).equals("when")) {
            at++;
            must(next.conditions < 60);
            next.conditions++;
            int fact = number(9);
            at++;
            must(at < words.size() && words.get(at).matches("[<=>]"));
            int sign = "<=>".indexOf(words.get(at)) - 1;
            branch.conditions.add(new int[] {fact, sign, number(999999)});
        }
    }

    private void mirrorPair(Told next) {
        must(next.mirrors.size() < 16);
        int without = number(999999);
        must(next.mirrors.stream().noneMatch(pair -> pair[0] == without || pair[1] == without));
        int with = number(999999);
        must(with != without);
        must(next.mirrors.stream().noneMatch(pair -> pair[0] == with || pair[1] == with));
        next.mirrors.add(new int[] {without, with});
    }

    boolean fact(int name, int v) {
        if (name < 0 || name > 9) {
            return false;
        }
        facts.put(name, v);
        return true;
    }

    int clearFacts() {
        int were = facts.size();
        facts.clear();
        return were;
    }

    /** What is taken, and what is asked for. */
    private int[] trial() {
        List<Integer> all = IntStream.range(0, told.branches.size()).boxed().collect(Collectors.toList());
        int[] first = trial(all);
        if (first[0] < 0 || !general(told.branches.get(first[0]).code)) {
            return first;
        }
        int group = told.branches.get(first[0]).group;
        int[] special = trial(all.stream().filter(b -> b > first[0] && told.branches.get(b).group == group
            && !general(told.branches.get(b).code)).collect(Collectors.toList()));
        return special[0] == -1 ? first : special;
    }

    private int[] trial(List<Integer> numbers) {
        for (int number : numbers) {
            boolean fits = true;
            for (int[] condition : told.branches.get(number).conditions) {
                Integer value = facts.get(condition[0]);
                if (value == null) {
                    return new int[] {-2, condition[0]};
                }
                fits = Integer.signum(Integer.compare(value, condition[2])) == condition[1];
                if (!fits) {
                    break;
                }
            }
            if (fits) {
                return new int[] {number, -1};
            }
        }
        return new int[] {-1, -1};
    }

    int code() {
        int taken = taken();
        return taken < 0 ? taken : told.branches.get(taken).code;
    }

    int taken() {
        return trial()[0];
    }

    int asks() {
        return trial()[1];
    }

    boolean general(int code) {
        return told.generals.contains(code);
    }

    int mirror(int code, boolean hazard) {
        return told.mirrors.stream().filter(pair -> pair[0] == code || pair[1] == code)
            .map(pair -> pair[hazard ? 1 : 0]).findFirst().orElse(-1);
    }

    int map(int code, int country, int day) {
        if (code < 0 || code > 999999 || country < 0 || country > 9 || day < 0 || day > 999999) {
            return -1;
        }
        return told.maps.stream().filter(map -> map[0] == code && map[1] == country && map[2] <= day)
            .reduce((a, b) -> b[2] >= a[2] ? b : a).map(map -> map[3]).orElse(code);
    }

    private static int distance(String a, String b) {
        return distance(a, b, new HashMap<>());
    }

    private static int distance(String a, String b, Map<String, Integer> known) {
        if (a.isEmpty() || b.isEmpty()) {
            return a.length() + b.length();
        }
        String key = a + " " + b;
        if (!known.containsKey(key)) {
            String restA = a.substring(1);
            String restB = b.substring(1);
            int change = distance(restA, restB, known) + (a.charAt(0) == b.charAt(0) ? 0 : 1);
            int out = distance(restA, b, known) + 1;
            int in = distance(a, restB, known) + 1;
            known.put(key, Math.min(change, Math.min(out, in)));
        }
        return known.get(key);
    }

    private String nearest(int k) {
        List<String> now = words();
        if (now.isEmpty() || !now.get(0).matches("[a-z]{1,8}") || k < 0 || k >= told.names.size()) {
            return null;
        }
        List<String> names = new ArrayList<>(told.names.keySet());
        Map<String, Integer> edits = new HashMap<>();
        for (String name : names) {
            edits.put(name, distance(now.get(0), name));
        }
        names.sort((a, b) -> edits.get(a) - edits.get(b));
        return names.get(k);
    }

    int near(int k) {
        String name = nearest(k);
        return name == null ? -1 : told.names.get(name);
    }

    int edits(int k) {
        String name = nearest(k);
        return name == null ? -1 : distance(words().get(0), name);
    }

    private static boolean isPaper(int end, int paper) {
        return end >= 0 && end < 6 && paper >= 0 && paper < 10;
    }

    boolean needs(int end, int paper) {
        return isPaper(end, paper) && needed.add(end * 10 + paper);
    }

    boolean paper(int end, int paper) {
        if (!isPaper(end, paper)) {
            return false;
        }
        there.add(end * 10 + paper);
        return lacking(end).isEmpty();
    }

    private List<Integer> lacking(int end) {
        return needed.stream().filter(p -> p / 10 == end && !there.contains(p)).map(p -> p % 10).collect(Collectors.toList());
    }

    int lacks(int end, int k) {
        if (end < 0 || end > 5) {
            return -1;
        }
        List<Integer> lacking = lacking(end);
        return k < 0 || k >= lacking.size() ? -1 : lacking.get(k);
    }

    int permit() {
        if (permits.size() == 6) {
            return -1;
        }
        permits.add(new ArrayList<>());
        return permits.size() - 1;
    }

    boolean allows(int permit, int from, int to) {
        boolean such = permit >= 0 && permit < permits.size() && from >= 0 && from <= to && to <= 999999;
        return such && permits.get(permit).size() < 5 && permits.get(permit).add(new int[] {from, to});
    }

    int check(int permit, int code) {
        if (permit < 0 || permit >= permits.size()) {
            return -1;
        }
        return permits.get(permit).stream().anyMatch(span -> span[0] <= code && code <= span[1]) ? 1 : 0;
    }

    int put(int place) {
        if (place < 0 || place > 7) {
            return -1;
        }
        List<Integer> had = places.computeIfAbsent(place, p -> new ArrayList<>());
        if (had.size() == 12) {
            return -1;
        }
        int code = code();
        if (code >= 0) {
            had.add(0, code);
        }
        return code;
    }

    int history(int place, int k) {
        List<Integer> had = places.getOrDefault(place, List.of());
        return k < 0 || k >= had.size() ? -1 : had.get(k);
    }
}
