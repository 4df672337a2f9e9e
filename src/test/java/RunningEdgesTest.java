/** The boundary cases of keys and of running: "Terms" and promises 21 to 26, a sentence each. */
public final class RunningEdgesTest {
    private static final int ALL_TARGETS = (1 << 16) - 1;

    private RunningEdgesTest() {
    }

    public static void main(String[] args) {
        promise21NeedsToRun();
        promise21FirstAndLastKey();
        promise21NoInputsAndContentZero();
        promise21OtherTargetsKeys();
        promise21KeysOfDependencies();
        promise21NoSuchTarget();
        promise22NoneAndAll();
        promise23NeedsNotTo();
        promise23NeverRun();
        promise23OtherInputs();
        promise23Otherwise();
        promise23TheFirstThatIsSo();
        promise23FoundLast();
        promise23NoSuchTarget();
        promise24NoSuchTarget();
        promise24DependencyNeedsToRun();
        promise24The200thKey();
        promise24KeysWereGiven();
        promise24FoundBehind200Keys();
        promise25NoTargets();
        promise25RunNotFound();
        promise25Upto200Keys();
        promise25MoreThan200Keys();
        promise25FoundBehind200Keys();
        promise26NoneAndAll();
        promise26FoundAndRefused();
        Check.finish("RunningEdgesTest");
    }

    private static Monobuild with16Targets() {
        Monobuild x = Repo.withFiles("a");
        for (int target = 0; target < 16; target++) {
            x.addTarget(1 + target);
            x.addGlob(target);
        }
        return x;
    }

    /** A repository in which 200 keys were given, and the file a has another content again. */
    private static Monobuild allKeysAndContent(int content) {
        Monobuild x = Repo.allKeys();
        x.edit(0, content);
        return x;
    }

    /** A repository in which 192 keys were given to 8 targets that all need to run, and some more to others. */
    private static Monobuild with8KeysLeft(int more) {
        Monobuild x = Repo.withFiles("ab");
        Repo.text(x, "a");
        for (int target = 0; target < 8; target++) {
            x.addTarget(1 + target);
            x.addGlob(target);
        }
        x.depend(1, 0);
        for (int content = 0; content < 24; content++) {
            x.edit(0, content);
            x.runAll();
        }
        x.edit(0, 24);
        int other = x.addTarget(1);
        Repo.glob(x, other, "b");
        for (int content = 0; content < more; content++) {
            x.edit(1, content);
            x.run(other);
        }
        return x;
    }

    private static void promise21NeedsToRun() {
        Monobuild x = Repo.withTargets(1);
        Check.same("Promise 21: 0 if it needs to run", x.keyOf(0), 0);
        x.run(0);
        Check.same("Promise 21: its key, without inputs and dependencies", x.keyOf(0), 1);
        Check.same("Promise 21: 0 for a changed input", Repo.busy().keyOf(1), 0);
        Check.same("Promise 21: 0 if a dependency needs to run", Repo.busy().keyOf(2), 0);
    }

    private static void promise21FirstAndLastKey() {
        Check.same("Promise 21: the first key", allKeysAndContent(0).keyOf(0), 1);
        Check.same("Promise 21: the 200th key", Repo.allKeys().keyOf(7), 200);
        Check.same("Promise 21: the first key of the last target", allKeysAndContent(0).keyOf(7), 8);
        Check.same("Promise 21: a content that never was", allKeysAndContent(25).keyOf(7), 0);
    }

    private static void promise21NoInputsAndContentZero() {
        Monobuild x = Repo.withFiles("x");
        x.addTarget(1);
        Repo.glob(x, 0, "a");
        x.run(0);
        Repo.file(x, "a", 0);
        Check.same("Promise 21: content 0 is not the same as no input", x.keyOf(0), 0);
        Check.same("Promise 21: its key", x.run(0), 2);
        x.edit(1, 9999);
        Check.same("Promise 21: content 9999", x.run(0), 3);
        x.delete(1);
        Check.same("Promise 21: no input again", x.keyOf(0), 1);
        Repo.file(x, "a", 0);
        Check.same("Promise 21: content 0 again", x.keyOf(0), 2);
        x.edit(1, 9999);
        Check.same("Promise 21: content 9999 again", x.keyOf(0), 3);
    }

    private static void promise21OtherTargetsKeys() {
        Monobuild x = Repo.withFiles("ab");
        x.addTarget(1);
        x.addTarget(1);
        Repo.glob(x, 0, "?");
        Repo.glob(x, 1, "?");
        x.run(0);
        Check.same("Promise 21: another target ran with the same inputs", x.keyOf(1), 0);
        Check.same("Promise 21: it gets another key", x.run(1), 2);
        x.edit(0, 11);
        x.edit(1, 10);
        Check.same("Promise 21: the same contents of other files", x.keyOf(0), 0);
        Monobuild y = Repo.withFiles("abcdefghijklmnopqrstuvwx");
        y.addTarget(1);
        Repo.glob(y, 0, "?");
        y.run(0);
        y.edit(23, 9);
        Check.same("Promise 21: the last one of 24 inputs", y.keyOf(0), 0);
        y.edit(23, 33);
        y.edit(0, 9);
        Check.same("Promise 21: the first one of 24 inputs", y.keyOf(0), 0);
    }

    private static void promise21KeysOfDependencies() {
        Monobuild x = with16Targets();
        x.depend(0, 15);
        x.depend(15, 14);
        x.runAll();
        Check.same("Promise 21: all have keys", x.needed(), 0);
        Repo.file(x, "b", 1);
        Repo.glob(x, 14, "b");
        Check.same("Promise 21: a dependency needs to run, two down", x.keyOf(0), 0);
        x.run(14);
        Check.same("Promise 21: its dependency needs to run still", x.keyOf(0), 0);
        x.run(15);
        Check.same("Promise 21: the last target's key is another one", x.keyOf(0), 0);
        x.run(0);
        x.delete(1);
        Check.same("Promise 21: the keys from before", x.keyOf(0), 16);
        x.depend(0, 1);
        Check.same("Promise 21: another dependency, and it has a key", x.keyOf(0), 0);
    }

    private static void promise21NoSuchTarget() {
        Refusal.noTarget("Promise 21", (x, target) -> x.keyOf(target));
    }

    private static void promise22NoneAndAll() {
        Check.same("Promise 22: no targets", new Monobuild().needed(), 0);
        Monobuild x = with16Targets();
        Check.same("Promise 22: all 16", x.needed(), ALL_TARGETS);
        x.run(15);
        Check.same("Promise 22: all but the last one", x.needed(), ALL_TARGETS >> 1);
        x.runAll();
        Check.same("Promise 22: none", x.needed(), 0);
        x.depend(15, 0);
        Check.same("Promise 22: the last one", x.needed(), 1 << 15);
        Check.same("Promise 22: behind 200 keys", allKeysAndContent(25).needed(), 255);
    }

    private static void promise23NeedsNotTo() {
        Monobuild x = Repo.withTargets(1);
        x.run(0);
        Check.same("Promise 23: 0 without inputs", x.whyRun(0), 0);
        Monobuild y = allKeysAndContent(3);
        Check.same("Promise 23: 0 with inputs that are not those of the last run", y.whyRun(0), 0);
    }

    private static void promise23NeverRun() {
        Monobuild x = Repo.withTargets(1, 1);
        Check.same("Promise 23: 1 without inputs", x.whyRun(0), 1);
        x.depend(1, 0);
        Check.call("Promise 23: a refused run", () -> x.run(1), Repo.STATE);
        Check.same("Promise 23: 1 after a refused run", x.whyRun(1), 1);
        x.run(0);
        Check.same("Promise 23: 1 when another target ran", x.whyRun(1), 1);
        Monobuild y = Repo.allKeys();
        y.addTarget(1);
        Check.call("Promise 23: a refused runAll", () -> y.runAll(), Repo.STATE);
        Check.call("Promise 23: a refused run behind 200 keys", () -> y.run(8), Repo.STATE);
        Check.same("Promise 23: 1 behind 200 keys", y.whyRun(8), 1);
    }

    private static void promise23OtherInputs() {
        Monobuild x = Repo.withFiles("a");
        x.addTarget(1);
        Repo.glob(x, 0, "?");
        x.run(0);
        x.edit(0, 0);
        Check.same("Promise 23: 2 for another content", x.whyRun(0), 2);
        x.delete(0);
        Check.same("Promise 23: 2 for an input less", x.whyRun(0), 2);
        x.run(0);
        Repo.file(x, "a", 0);
        Check.same("Promise 23: 2 for an input more, with content 0", x.whyRun(0), 2);
        x.delete(0);
        Repo.file(x, "b", 10);
        Check.same("Promise 23: 2 for another input with the same content", x.whyRun(0), 2);
        Check.same("Promise 23: 2 behind 200 keys", allKeysAndContent(25).whyRun(7), 2);
    }

    private static void promise23Otherwise() {
        Monobuild x = Repo.withFiles("a");
        x.addTarget(1);
        x.addTarget(1);
        x.addTarget(1);
        Repo.glob(x, 0, "a");
        x.depend(1, 0);
        x.runAll();
        x.edit(0, 1);
        Check.same("Promise 23: 3 if a dependency needs to run", x.whyRun(1), 3);
        x.run(0);
        Check.same("Promise 23: 3 for another key of a dependency", x.whyRun(1), 3);
        x.run(1);
        x.depend(1, 2);
        Check.same("Promise 23: 3 for another dependency", x.whyRun(1), 3);
    }

    private static void promise23TheFirstThatIsSo() {
        Monobuild x = Repo.withFiles("a");
        x.addTarget(1);
        x.addTarget(1);
        Repo.glob(x, 0, "a");
        x.depend(0, 1);
        x.edit(0, 2);
        Check.same("Promise 23: 1 goes ahead of 2 and 3", x.whyRun(0), 1);
        x.runAll();
        x.edit(0, 3);
        Repo.glob(x, 1, "a");
        Check.same("Promise 23: 2 goes ahead of 3", x.whyRun(0), 2);
        x.edit(0, 2);
        Check.same("Promise 23: 3 is left", x.whyRun(0), 3);
    }

    private static void promise23FoundLast() {
        Monobuild x = allKeysAndContent(3);
        x.run(2);
        x.addTarget(1);
        x.depend(2, 8);
        x.depend(3, 8);
        Check.same("Promise 23: 3 with the inputs found last by run()", x.whyRun(2), 3);
        Check.same("Promise 23: 2 if it ran with others last", x.whyRun(3), 2);
        Monobuild y = allKeysAndContent(3);
        y.runAll();
        y.addTarget(1);
        y.depend(3, 8);
        Check.same("Promise 23: 3 with the inputs found last by runAll()", y.whyRun(3), 3);
        y.edit(0, 24);
        Check.same("Promise 23: 2 with those of the run before", y.whyRun(3), 2);
        Monobuild z = allKeysAndContent(3);
        z.keyOf(3);
        z.needed();
        z.whyRun(3);
        z.addTarget(1);
        z.depend(3, 8);
        Check.same("Promise 23: 2 if it was only looked at", z.whyRun(3), 2);
    }

    private static void promise23NoSuchTarget() {
        Refusal.noTarget("Promise 23", (x, target) -> x.whyRun(target));
    }

    private static void promise24NoSuchTarget() {
        Refusal.noTarget("Promise 24", (x, target) -> x.run(target));
        Refusal.outside("Promise 24: 200 keys were given, and no target ", 8, () -> allKeysAndContent(25),
                (x, target) -> x.run(target));
    }

    private static void promise24DependencyNeedsToRun() {
        Refusal.check("Promise 24: a dependency needs to run", Repo.STATE, Repo::busy, x -> x.run(2));
        Refusal.check("Promise 24: a dependency of its dependency needs to run", Repo.STATE, () -> {
            Monobuild x = Repo.busy();
            x.edit(0, 30);
            return x;
        }, x -> x.run(2));
        Refusal.check("Promise 24: one of two dependencies needs to run", Repo.STATE, () -> {
            Monobuild x = Repo.busy();
            x.depend(3, 0);
            x.depend(3, 1);
            return x;
        }, x -> x.run(3));
        Refusal.check("Promise 24: a dependency needs to run, and 200 keys were given", Repo.STATE,
                () -> allKeysAndContent(25), x -> x.run(1));
    }

    private static void promise24The200thKey() {
        Monobuild x = with8KeysLeft(7);
        Check.same("Promise 24: 199 keys", x.keys(), 199);
        Check.same("Promise 24: the 200th key", x.run(7), 200);
        Check.same("Promise 24: it stands", x.keyOf(7), 200);
        Check.same("Promise 24: it is found", x.run(7), 200);
        Check.call("Promise 24: a 201st key", () -> x.run(6), Repo.STATE);
    }

    private static void promise24KeysWereGiven() {
        for (int target = 0; target < 8; target++) {
            int some = target;
            Refusal.check("Promise 24: 200 keys were given, and target " + target + " needs to run",
                    Repo.STATE, () -> allKeysAndContent(25), x -> x.run(some));
        }
        Refusal.check("Promise 24: 200 keys were given, and a new target needs to run", Repo.STATE, () -> {
            Monobuild x = allKeysAndContent(3);
            x.addTarget(1);
            return x;
        }, x -> x.run(8));
    }

    private static void promise24FoundBehind200Keys() {
        Monobuild x = Repo.allKeys();
        Check.same("Promise 24: found behind 200 keys", x.run(0), 193);
        Check.same("Promise 24: found, with a dependency", x.run(1), 194);
        x.edit(0, 0);
        Check.same("Promise 24: the first key is found", x.run(0), 1);
        Check.same("Promise 24: 200 keys stay", x.keys(), 200);
    }

    private static void promise25NoTargets() {
        Check.same("Promise 25: no targets", new Monobuild().runAll(), 0);
        Check.same("Promise 25: files alone", Repo.withFiles("ab").runAll(), 0);
    }

    private static void promise25RunNotFound() {
        Monobuild x = with16Targets();
        Check.same("Promise 25: all 16 are run", x.runAll(), 16);
        Check.same("Promise 25: all 16 are found", x.runAll(), 0);
        x.edit(0, 11);
        x.run(3);
        Check.same("Promise 25: one is found", x.runAll(), 15);
        x.edit(0, 10);
        Check.same("Promise 25: all are found with keys from before", x.runAll(), 0);
        Monobuild y = Repo.full();
        Check.same("Promise 25: a chain of 16 is run", y.runAll(), 16);
        Check.same("Promise 25: its first key", y.keyOf(0), 17);
        Check.same("Promise 25: its last key", y.keyOf(15), 32);
    }

    private static void promise25Upto200Keys() {
        Monobuild x = with8KeysLeft(7);
        Check.same("Promise 25: 199 keys", x.keys(), 199);
        x.edit(0, 23);
        x.addTarget(1);
        Check.same("Promise 25: one more, nine are found", x.runAll(), 1);
        Check.same("Promise 25: it is the 200th", x.keyOf(9), 200);
        Monobuild y = Repo.withFiles("a");
        for (int target = 0; target < 8; target++) {
            y.addTarget(1);
            y.addGlob(target);
        }
        for (int content = 0; content < 25; content++) {
            y.edit(0, content);
            Check.same("Promise 25: the eight keys up to " + (content + 1) * 8, y.runAll(), 8);
        }
        Check.same("Promise 25: exactly 200 keys", y.keys(), 200);
        Check.same("Promise 25: the 200th key", y.keyOf(7), 200);
    }

    private static void promise25MoreThan200Keys() {
        Refusal.check("Promise 25: nine more, and eight are left", Repo.STATE, () -> with8KeysLeft(0),
                x -> x.runAll());
        Refusal.check("Promise 25: eight more, and seven are left", Repo.STATE, () -> with8KeysLeft(1),
                x -> x.runAll());
        Refusal.check("Promise 25: eight more, and none is left", Repo.STATE, () -> with8KeysLeft(8),
                x -> x.runAll());
        Refusal.check("Promise 25: one more, and none is left, eight are found with others than last",
                Repo.STATE, () -> {
                    Monobuild x = allKeysAndContent(3);
                    x.addTarget(1);
                    return x;
                }, x -> x.runAll());
    }

    private static void promise25FoundBehind200Keys() {
        Monobuild x = Repo.allKeys();
        Check.same("Promise 25: all are found behind 200 keys", x.runAll(), 0);
        x.edit(0, 0);
        Check.same("Promise 25: all are found with their first keys", x.runAll(), 0);
        Check.same("Promise 25: 200 keys stay", x.keys(), 200);
    }

    private static void promise26NoneAndAll() {
        Check.same("Promise 26: none", new Monobuild().keys(), 0);
        Check.same("Promise 26: none was given to a target that did not run", Repo.withTargets(1).keys(), 0);
        Check.same("Promise 26: 200", Repo.allKeys().keys(), 200);
    }

    private static void promise26FoundAndRefused() {
        Monobuild x = Repo.busy();
        Check.same("Promise 26: five", x.keys(), 5);
        x.run(0);
        Check.same("Promise 26: a found target gets none", x.keys(), 5);
        Check.call("Promise 26: a refused run", () -> x.run(2), Repo.STATE);
        Check.same("Promise 26: a refused target gets none", x.keys(), 5);
        x.edit(0, 77);
        Check.same("Promise 26: given ones stay given", x.keys(), 5);
    }
}
