import java.util.ArrayList;
import java.util.List;

/**
 * Long runs of calls, made by a counter and always the same, each answered by Monobuild and by Model;
 * and calls with any arguments, beyond the 512th one too, which may throw only what the document names.
 */
public final class ModelTest {
    private static final int RUNS = 1500;
    private static final int CALLS = 512;
    private static final String[] PATHS = {"a", "b", "ab", "ba", "aa", "a/b", "b/a", "a/a", "a/ab", "ab/a",
        "a/b/a", "a/a/b", "b/b/b", "aa/b", "a/aa/b", "bab", "b/ab/a", "b", "b/b", "abb", "a/b/b", "aab",
        "ba/a", "b/a/b", "b/ba", "bb", "bb/b", "b/b/a/a"};

    private long state;
    private final Monobuild x = new Monobuild();
    private final Model model = new Model();
    private final StringBuilder history = new StringBuilder();
    private final int run;
    private final boolean manyKeys;
    private int calls;
    private boolean same = true;

    private ModelTest(int run) {
        this.run = run;
        state = run * 7919L + 17;
        manyKeys = run % 4 == 0;
    }

    public static void main(String[] args) {
        for (int run = 0; run < RUNS && Check.wrong() < 5; run++) {
            new ModelTest(run).compare();
        }
        for (int run = 0; run < 100; run++) {
            new ModelTest(run).throwsOnlyWhatIsNamed();
        }
        Check.finish("ModelTest");
    }

    private int below(int bound) {
        state = state * 6364136223846793005L + 1442695040888963407L;
        return (int) ((state >>> 33) % bound);
    }

    /** A number that is mostly one of the first ones, and now and then a wrong or far one. */
    private int number(int count, int most) {
        int kind = below(24);
        if (kind == 0) {
            return -1;
        }
        if (kind == 1) {
            return count;
        }
        if (kind == 2) {
            return below(most + 3) - 1;
        }
        return below(Math.max(1, count));
    }

    private void both(String call, Check.Call ours, Check.Call due) {
        if (calls >= CALLS || !same) {
            return;
        }
        calls++;
        history.append(call).append("; ");
        String got = Check.outcome(ours);
        String wanted = Check.outcome(due);
        same = got.equals(wanted);
        if (!same) {
            Check.same("run " + run + ": " + history, got, wanted);
        }
    }

    private void text(String text) {
        both("clearText", () -> x.clearText(), () -> model.clearText());
        for (char c : text.toCharArray()) {
            both("type " + c, () -> x.type(c), () -> model.type(c));
        }
    }

    private String glob() {
        StringBuilder glob = new StringBuilder(PATHS[below(PATHS.length)]);
        for (int changes = below(4); changes > 0; changes--) {
            int place = below(glob.length());
            switch (below(6)) {
                case 0 -> glob.setCharAt(place, '?');
                case 1 -> glob.setCharAt(place, '*');
                case 2 -> glob.insert(place, '*');
                case 3 -> glob.insert(place, "**/");
                case 4 -> glob.append(below(2) == 0 ? "/**" : "*");
                default -> glob.setCharAt(place, '/');
            }
        }
        return glob.length() > 24 ? "**" : glob.toString();
    }

    private int file() {
        return number(Integer.bitCount(x.files()) + 1, 24);
    }

    private int target() {
        return number(x.targets(), 16);
    }

    private int content() {
        return below(12) == 0 ? below(2) == 0 ? -1 : 10000 : below(12) == 0 ? 9999 : below(manyKeys ? 400 : 3);
    }

    private void compare() {
        int targets = manyKeys ? 14 : below(6);
        for (int i = 0; i < targets; i++) {
            addTarget();
        }
        while (calls < CALLS && same) {
            switch (below(manyKeys ? 11 : 9)) {
                case 0 -> change();
                case 1 -> textCalls();
                case 2 -> build();
                case 3, 4 -> ask();
                case 5 -> run();
                case 6 -> shards();
                case 7 -> owners();
                case 8 -> addFile();
                default -> {
                    edit();
                    both("runAll", () -> x.runAll(), () -> model.runAll());
                }
            }
        }
        Check.same("run " + run + " is as due", same, true);
    }

    private void addFile() {
        text(below(10) == 0 ? glob() : PATHS[below(PATHS.length)]);
        int content = content();
        both("addFile " + content, () -> x.addFile(content), () -> model.addFile(content));
    }

    private void addTarget() {
        int cost = below(10) == 0 ? below(2) * 1001 : below(10) == 0 ? 1000 : 1 + below(9);
        both("addTarget " + cost, () -> x.addTarget(cost), () -> model.addTarget(cost));
    }

    private void edit() {
        int file = file();
        int content = content();
        both("edit " + file + " " + content, () -> x.edit(file, content), () -> model.edit(file, content));
    }

    private void change() {
        int file = file();
        if (below(3) == 0) {
            both("delete " + file, () -> x.delete(file), () -> model.delete(file));
        } else {
            edit();
        }
        both("files", () -> x.files(), () -> model.files());
    }

    private void textCalls() {
        text(below(2) == 0 ? glob() : PATHS[below(PATHS.length)]);
        if (below(40) == 0) {
            text("aaaaaaaaaa/aaaaaaaaaa/aaa");
        }
        char wrong = (char) below(300);
        both("type " + (int) wrong, () -> x.type(wrong), () -> model.type(wrong));
        both("isPath", () -> x.isPath(), () -> model.isPath());
        both("isGlob", () -> x.isGlob(), () -> model.isGlob());
        both("findFile", () -> x.findFile(), () -> model.findFile());
        for (int i = 0; i < 4; i++) {
            int file = file();
            both("matches " + file, () -> x.matches(file), () -> model.matches(file));
        }
    }

    private void build() {
        int target = target();
        int other = target();
        switch (below(4)) {
            case 0 -> addTarget();
            case 1 -> both("depend " + target + " " + other,
                    () -> x.depend(target, other), () -> model.depend(target, other));
            default -> {
                text(glob());
                both("addGlob " + target, () -> x.addGlob(target), () -> model.addGlob(target));
            }
        }
    }

    private void ask() {
        int target = target();
        int file = file();
        switch (below(9)) {
            case 0 -> both("targets", () -> x.targets(), () -> model.targets());
            case 1 -> both("inputs " + target, () -> x.inputs(target), () -> model.inputs(target));
            case 2 -> both("above " + target, () -> x.above(target), () -> model.above(target));
            case 3 -> both("orderAt " + target, () -> x.orderAt(target), () -> model.orderAt(target));
            case 4 -> both("affectedBy " + file, () -> x.affectedBy(file), () -> model.affectedBy(file));
            case 5 -> both("affectedByGoingDown " + file,
                    () -> x.affectedByGoingDown(file), () -> model.affectedBy(file));
            case 6 -> both("keyOf " + target, () -> x.keyOf(target), () -> model.keyOf(target));
            case 7 -> both("needed", () -> x.needed(), () -> model.needed());
            default -> both("whyRun " + target, () -> x.whyRun(target), () -> model.whyRun(target));
        }
    }

    private void run() {
        int target = target();
        switch (below(5)) {
            case 0 -> both("runAll", () -> x.runAll(), () -> model.runAll());
            case 1 -> both("whyRun " + target, () -> x.whyRun(target), () -> model.whyRun(target));
            case 2 -> both("keys", () -> x.keys(), () -> model.keys());
            default -> both("run " + target, () -> x.run(target), () -> model.run(target));
        }
    }

    private void shards() {
        int target = target();
        int shards = number(8, 9) + 1;
        int limit = below(10) == 0 ? below(2) * 16001 : 1 + below(below(2) == 0 ? 20 : 16000);
        both("shardOf " + target + " " + shards,
                () -> x.shardOf(target, shards), () -> model.shardOf(target, shards));
        both("longestShard " + shards, () -> x.longestShard(shards), () -> model.longestShard(shards));
        both("shardsFor " + limit, () -> x.shardsFor(limit), () -> model.shardsFor(limit));
    }

    private void owners() {
        int file = file();
        int owner = number(8, 8);
        switch (below(6)) {
            case 0 -> {
                text(glob());
                both("addRule " + owner, () -> x.addRule(owner), () -> model.addRule(owner));
            }
            case 1 -> both("mark", () -> x.mark(), () -> model.mark());
            case 2 -> both("changed", () -> x.changed(), () -> model.changed());
            case 3 -> both("reviewers", () -> x.reviewers(), () -> model.reviewers());
            default -> both("ownerOf " + file, () -> x.ownerOf(file), () -> model.ownerOf(file));
        }
    }

    private int any() {
        int[] edges = {-1, 0, 1, 7, 8, 15, 16, 23, 24, 31, 32, 33, 1000, 9999, 16000, Integer.MAX_VALUE,
            Integer.MIN_VALUE, Integer.MIN_VALUE + 1, 64, -32, -24};
        return below(2) == 0 ? edges[below(edges.length)] : below(17);
    }

    private void throwsOnlyWhatIsNamed() {
        for (int i = 0; i < 3000; i++) {
            int a = any();
            int b = any();
            if (below(6) == 0) {
                x.clearText();
                for (char c : glob().toCharArray()) {
                    x.type(c);
                }
            }
            List<Check.Call> all = new ArrayList<>(List.of(() -> x.type((char) a), () -> x.addFile(a),
                    () -> x.findFile(), () -> x.edit(a, b), () -> x.delete(a), () -> x.files(),
                    () -> x.matches(a), () -> x.addTarget(a), () -> x.addGlob(a), () -> x.depend(a, b)));
            all.addAll(List.of(() -> x.inputs(a), () -> x.above(a), () -> x.orderAt(a), () -> x.affectedBy(a),
                    () -> x.affectedByGoingDown(a), () -> x.keyOf(a), () -> x.needed(), () -> x.whyRun(a),
                    () -> x.run(a), () -> x.runAll()));
            all.addAll(List.of(() -> x.shardOf(a, b), () -> x.longestShard(a), () -> x.shardsFor(a),
                    () -> x.addRule(a), () -> x.ownerOf(a), () -> x.mark(), () -> x.changed(),
                    () -> x.reviewers(), () -> x.isPath(), () -> x.isGlob()));
            int which = below(all.size());
            String outcome = Check.outcome(all.get(which));
            boolean named = outcome.matches("-?[0-9]+|true|false") || outcome.equals(Repo.INDEX)
                    || outcome.equals(Repo.ARGUMENT) || outcome.equals(Repo.STATE);
            if (!named) {
                Check.same("call " + which + " of " + a + " and " + b, outcome, "an exception that is named");
            }
        }
        Check.same("run " + run + " of any calls", x.targets() <= 16, true);
    }
}
