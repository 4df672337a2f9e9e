import java.util.List;

/**
 * Ways to look at a repository that show all of its state, also what no single call tells: what may still
 * be typed, how many globs a target takes, what each target ran with last. A look changes the object, and
 * takes fewer than 260 calls, so each wants an object of its own.
 */
final class Looks {
    private static final int FILES = 24;
    private static final int TARGETS = 16;

    /** One way to look at a repository; it returns all answers in a line. */
    interface Look {
        String at(Monobuild x);
    }

    static final List<Look> ALL = List.of(Looks::text, Looks::files, Looks::targets, Looks::globsAndRules,
            Looks::dependencies, Looks::running, Looks::ranLast);

    private interface Question {
        Object of(int number);
    }

    private Looks() {
    }

    private static void ask(StringBuilder line, String call, int count, Question question) {
        for (int i = 0; i < count; i++) {
            int number = i;
            line.append(call).append(' ').append(i).append(' ');
            line.append(Check.outcome(() -> question.of(number))).append("; ");
        }
    }

    private static void ask(StringBuilder line, String call, Check.Call question) {
        line.append(call).append(' ').append(Check.outcome(question)).append("; ");
    }

    private static String text(Monobuild x) {
        StringBuilder line = new StringBuilder();
        ask(line, "isPath", () -> x.isPath());
        ask(line, "isGlob", () -> x.isGlob());
        ask(line, "findFile", () -> x.findFile());
        ask(line, "matches", FILES, file -> x.matches(file));
        ask(line, "type", () -> x.type('a'));
        ask(line, "clearText", () -> x.clearText());
        return line.toString();
    }

    private static String files(Monobuild x) {
        StringBuilder line = new StringBuilder();
        ask(line, "files", () -> x.files());
        ask(line, "changed", () -> x.changed());
        ask(line, "reviewers", () -> x.reviewers());
        ask(line, "ownerOf", FILES, file -> x.ownerOf(file));
        ask(line, "delete", FILES, file -> x.delete(file));
        ask(line, "changed when all are deleted", () -> x.changed());
        Repo.text(x, "y/z");
        ask(line, "findFile", () -> x.findFile());
        ask(line, "addFile", () -> x.addFile(0));
        ask(line, "mark", () -> x.mark());
        return line.toString();
    }

    private static String targets(Monobuild x) {
        StringBuilder line = new StringBuilder();
        ask(line, "targets", () -> x.targets());
        ask(line, "inputs", TARGETS, target -> x.inputs(target));
        ask(line, "above", TARGETS, target -> x.above(target));
        ask(line, "orderAt", TARGETS, place -> x.orderAt(place));
        ask(line, "affectedBy", FILES, file -> x.affectedBy(file));
        ask(line, "affectedByGoingDown", FILES, file -> x.affectedByGoingDown(file));
        ask(line, "shardOf", TARGETS, target -> x.shardOf(target, 3));
        ask(line, "longestShard", 9, shards -> x.longestShard(shards));
        ask(line, "shardsFor", 9, limit -> x.shardsFor(limit));
        return line.toString();
    }

    private static String globsAndRules(Monobuild x) {
        StringBuilder line = new StringBuilder();
        Repo.text(x, "?");
        ask(line, "addRule", () -> x.addRule(6));
        ask(line, "ownerOf", FILES, file -> x.ownerOf(file));
        Repo.text(x, "z/z");
        for (int glob = 0; glob < 5; glob++) {
            ask(line, "addGlob", TARGETS, target -> x.addGlob(target));
        }
        return line.toString();
    }

    private static String dependencies(Monobuild x) {
        StringBuilder line = new StringBuilder();
        for (int other = 0; other < TARGETS; other++) {
            int below = other;
            ask(line, "on " + other + " depend", TARGETS, target -> x.depend(target, below));
        }
        return line.toString();
    }

    private static String running(Monobuild x) {
        StringBuilder line = new StringBuilder();
        ask(line, "keys", () -> x.keys());
        ask(line, "needed", () -> x.needed());
        ask(line, "keyOf", TARGETS, target -> x.keyOf(target));
        ask(line, "whyRun", TARGETS, target -> x.whyRun(target));
        ask(line, "edit", FILES, file -> x.edit(file, 4321));
        ask(line, "whyRun after edits", TARGETS, target -> x.whyRun(target));
        ask(line, "run", TARGETS, target -> x.run(target));
        ask(line, "runAll", () -> x.runAll());
        ask(line, "keyOf", TARGETS, target -> x.keyOf(target));
        ask(line, "addTarget", () -> x.addTarget(1));
        ask(line, "keys", () -> x.keys());
        return line.toString();
    }

    /** Lets all targets need to run by a new dependency, so that whyRun() tells with what each ran last. */
    private static String ranLast(Monobuild x) {
        StringBuilder line = new StringBuilder();
        ask(line, "addTarget", () -> x.addTarget(1));
        int latest = x.targets() - 1;
        ask(line, "depend on it", TARGETS, target -> x.depend(target, latest));
        ask(line, "whyRun", TARGETS, target -> x.whyRun(target));
        return line.toString();
    }
}
