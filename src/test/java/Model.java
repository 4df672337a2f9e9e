import java.util.ArrayList;
import java.util.HashMap;
import java.util.List;
import java.util.Map;
import java.util.TreeMap;
import java.util.TreeSet;

/**
 * What the document says, once more and as plainly as can be, with the Java library, recursion and no
 * thought of speed; ModelTest compares Monobuild with it.
 */
final class Model {
    private String text = "";
    private final List<String> paths = new ArrayList<>();
    private final TreeMap<Integer, Integer> contents = new TreeMap<>();
    private Map<Integer, Integer> marked = new HashMap<>();
    private final List<Integer> costs = new ArrayList<>();
    private final List<List<String>> globs = new ArrayList<>();
    private final List<TreeSet<Integer>> dependencies = new ArrayList<>();
    private final List<String> ruleGlobs = new ArrayList<>();
    private final List<Integer> ruleOwners = new ArrayList<>();
    private Map<String, Integer> given = new HashMap<>();
    private Map<Integer, String> lastInputs = new HashMap<>();

    private static RuntimeException index() {
        return new IndexOutOfBoundsException();
    }

    private static RuntimeException argument() {
        return new IllegalArgumentException();
    }

    private static RuntimeException state() {
        return new IllegalStateException();
    }

    private static void unless(boolean good, RuntimeException exception) {
        if (!good) {
            throw exception;
        }
    }

    private static int set(Iterable<Integer> numbers) {
        int set = 0;
        for (int number : numbers) {
            set |= 1 << number;
        }
        return set;
    }

    int type(char c) {
        unless("abcdefghijklmnopqrstuvwxyz/*?".indexOf(c) >= 0, argument());
        unless(text.length() < 24, state());
        text += c;
        return text.length();
    }

    int clearText() {
        int length = text.length();
        text = "";
        return length;
    }

    boolean isPath() {
        return text.matches("[a-z]+(/[a-z]+)*");
    }

    boolean isGlob() {
        for (String segment : text.split("/", -1)) {
            if (segment.isEmpty() || segment.contains("**") && !segment.equals("**")) {
                return false;
            }
        }
        return true;
    }

    int addFile(int content) {
        unless(content >= 0 && content <= 9999 && isPath(), argument());
        int file = findFile();
        unless(file < 0 ? paths.size() < 24 : !contents.containsKey(file), state());
        if (file < 0) {
            file = paths.size();
            paths.add(text);
        }
        contents.put(file, content);
        return file;
    }

    int findFile() {
        return paths.indexOf(text);
    }

    int edit(int file, int content) {
        unless(contents.containsKey(file), index());
        unless(content >= 0 && content <= 9999, argument());
        return contents.put(file, content);
    }

    int delete(int file) {
        unless(contents.containsKey(file), index());
        return contents.remove(file);
    }

    int files() {
        return set(contents.keySet());
    }

    private void requireFile(int file) {
        unless(file >= 0 && file < paths.size(), index());
    }

    private void requireTarget(int target) {
        unless(target >= 0 && target < costs.size(), index());
    }

    private static boolean covers(List<String> glob, List<String> path) {
        if (glob.isEmpty()) {
            return path.isEmpty();
        }
        List<String> rest = glob.subList(1, glob.size());
        if (glob.get(0).equals("**")) {
            return covers(rest, path) || !path.isEmpty() && covers(glob, path.subList(1, path.size()));
        }
        String pattern = glob.get(0).replace("?", "[a-z]").replace("*", "[a-z]*");
        return !path.isEmpty() && path.get(0).matches(pattern) && covers(rest, path.subList(1, path.size()));
    }

    private boolean covers(String glob, int file) {
        return covers(List.of(glob.split("/")), List.of(paths.get(file).split("/")));
    }

    private boolean coversAny(List<String> some, int file) {
        for (String glob : some) {
            if (covers(glob, file)) {
                return true;
            }
        }
        return false;
    }

    boolean matches(int file) {
        requireFile(file);
        unless(isGlob(), state());
        return covers(text, file);
    }

    int addTarget(int cost) {
        unless(cost >= 1 && cost <= 1000, argument());
        unless(costs.size() < 16, state());
        costs.add(cost);
        globs.add(new ArrayList<>());
        dependencies.add(new TreeSet<>());
        return costs.size() - 1;
    }

    int addGlob(int target) {
        requireTarget(target);
        unless(isGlob(), argument());
        unless(globs.get(target).size() < 4, state());
        globs.get(target).add(text);
        return Integer.bitCount(inputs(target));
    }

    private boolean isAbove(int upper, int lower) {
        for (int other : dependencies.get(upper)) {
            if (other == lower || isAbove(other, lower)) {
                return true;
            }
        }
        return false;
    }

    int depend(int target, int other) {
        requireTarget(target);
        requireTarget(other);
        unless(!dependencies.get(target).contains(other) && target != other && !isAbove(other, target), state());
        dependencies.get(target).add(other);
        return dependencies.get(target).size();
    }

    int targets() {
        return costs.size();
    }

    int inputs(int target) {
        requireTarget(target);
        List<Integer> found = new ArrayList<>();
        for (int file : contents.keySet()) {
            if (coversAny(globs.get(target), file)) {
                found.add(file);
            }
        }
        return set(found);
    }

    int above(int target) {
        requireTarget(target);
        List<Integer> found = new ArrayList<>();
        for (int upper = 0; upper < costs.size(); upper++) {
            if (isAbove(upper, target)) {
                found.add(upper);
            }
        }
        return set(found);
    }

    private List<Integer> order() {
        List<Integer> order = new ArrayList<>();
        while (order.size() < costs.size()) {
            for (int target = 0; target < costs.size(); target++) {
                if (!order.contains(target) && order.containsAll(dependencies.get(target))) {
                    order.add(target);
                    break;
                }
            }
        }
        return order;
    }

    int orderAt(int place) {
        unless(place >= 0 && place < costs.size(), index());
        return order().get(place);
    }

    int affectedBy(int file) {
        requireFile(file);
        List<Integer> found = new ArrayList<>();
        for (int target = 0; target < costs.size(); target++) {
            if (coversAny(globs.get(target), file)) {
                found.add(target);
            }
        }
        int affected = set(found);
        for (int target : found) {
            affected |= above(target);
        }
        return affected;
    }

    private String inputsText(int target) {
        StringBuilder line = new StringBuilder();
        for (Map.Entry<Integer, Integer> file : contents.entrySet()) {
            if (coversAny(globs.get(target), file.getKey())) {
                line.append(file).append(' ');
            }
        }
        return line.toString();
    }

    /** What a key would stand for; null if a dependency needs to run. */
    private String meaning(int target) {
        StringBuilder line = new StringBuilder();
        line.append(target).append(':').append(inputsText(target));
        for (int other : dependencies.get(target)) {
            int key = keyOf(other);
            if (key == 0) {
                return null;
            }
            line.append(other).append('#').append(key).append(' ');
        }
        return line.toString();
    }

    int keyOf(int target) {
        requireTarget(target);
        String meaning = meaning(target);
        return meaning == null ? 0 : given.getOrDefault(meaning, 0);
    }

    private List<Integer> neededTargets() {
        List<Integer> found = new ArrayList<>();
        for (int target = 0; target < costs.size(); target++) {
            if (keyOf(target) == 0) {
                found.add(target);
            }
        }
        return found;
    }

    int needed() {
        return set(neededTargets());
    }

    int whyRun(int target) {
        if (keyOf(target) != 0) {
            return 0;
        }
        String last = lastInputs.get(target);
        return last == null ? 1 : last.equals(inputsText(target)) ? 3 : 2;
    }

    int run(int target) {
        requireTarget(target);
        String meaning = meaning(target);
        unless(meaning != null && (given.containsKey(meaning) || given.size() < 200), state());
        given.putIfAbsent(meaning, given.size() + 1);
        lastInputs.put(target, inputsText(target));
        return given.get(meaning);
    }

    int runAll() {
        Map<String, Integer> givenBefore = new HashMap<>(given);
        Map<Integer, String> lastBefore = new HashMap<>(lastInputs);
        try {
            for (int target : order()) {
                run(target);
            }
        } catch (IllegalStateException e) {
            given = givenBefore;
            lastInputs = lastBefore;
            throw state();
        }
        return given.size() - givenBefore.size();
    }

    int keys() {
        return given.size();
    }

    private Map<Integer, Integer> places(int shards, int[] loads) {
        List<Integer> some = neededTargets();
        some.sort((a, b) -> costs.get(a).equals(costs.get(b)) ? a - b : costs.get(b) - costs.get(a));
        Map<Integer, Integer> places = new HashMap<>();
        for (int target : some) {
            int best = shards - 1;
            for (int shard = shards - 1; shard >= 0; shard--) {
                best = loads[shard] <= loads[best] ? shard : best;
            }
            loads[best] += costs.get(target);
            places.put(target, best);
        }
        return places;
    }

    int shardOf(int target, int shards) {
        requireTarget(target);
        unless(shards >= 1 && shards <= 8, argument());
        return places(shards, new int[shards]).getOrDefault(target, -1);
    }

    int longestShard(int shards) {
        unless(shards >= 1 && shards <= 8, argument());
        int[] loads = new int[shards];
        places(shards, loads);
        int longest = 0;
        for (int load : loads) {
            longest = Math.max(longest, load);
        }
        return longest;
    }

    int shardsFor(int limit) {
        unless(limit >= 1 && limit <= 16000, argument());
        int shards = 1;
        while (shards <= 8 && longestShard(shards) > limit) {
            shards++;
        }
        return shards > 8 ? -1 : shards;
    }

    int addRule(int owner) {
        unless(owner >= 0 && owner <= 7, index());
        unless(isGlob(), argument());
        unless(ruleGlobs.size() < 12, state());
        ruleGlobs.add(text);
        ruleOwners.add(owner);
        return ruleGlobs.size();
    }

    int ownerOf(int file) {
        requireFile(file);
        int owner = -1;
        for (int rule = 0; rule < ruleGlobs.size(); rule++) {
            if (covers(ruleGlobs.get(rule), file)) {
                owner = ruleOwners.get(rule);
            }
        }
        return owner;
    }

    int mark() {
        marked = new HashMap<>(contents);
        return marked.size();
    }

    private List<Integer> changedFiles() {
        List<Integer> found = new ArrayList<>();
        for (int file = 0; file < paths.size(); file++) {
            if (!String.valueOf(marked.get(file)).equals(String.valueOf(contents.get(file)))) {
                found.add(file);
            }
        }
        return found;
    }

    int changed() {
        return set(changedFiles());
    }

    int reviewers() {
        List<Integer> owners = new ArrayList<>();
        for (int file : changedFiles()) {
            if (ownerOf(file) >= 0) {
                owners.add(ownerOf(file));
            }
        }
        return set(owners);
    }
}
