/** Promises 21 to 26: running. */
public final class RunningTest {
    private RunningTest() {
    }

    public static void main(String[] args) {
        promise21KeyOf();
        promise21Dependencies();
        promise22Needed();
        promise23WhyRun();
        promise23FoundLast();
        promise24Run();
        promise24NoKeysLeft();
        promise25RunAll();
        promise25NoKeysLeft();
        promise26Keys();
        Check.finish("RunningTest");
    }

    private static void wrongTargets(Monobuild x) {
        for (int target : new int[] {-1, x.targets(), 16, 32, Integer.MAX_VALUE, Integer.MIN_VALUE}) {
            Check.call("keyOf(" + target + ")", () -> x.keyOf(target), Repo.INDEX);
            Check.call("whyRun(" + target + ")", () -> x.whyRun(target), Repo.INDEX);
            Check.call("run(" + target + ")", () -> x.run(target), Repo.INDEX);
        }
    }

    private static void promise21KeyOf() {
        Monobuild x = Repo.withFiles("ab");
        x.addTarget(1);
        x.addTarget(1);
        Repo.glob(x, 0, "a");
        wrongTargets(x);
        Check.same("no key yet", x.keyOf(0), 0);
        Check.same("run 0", x.run(0), 1);
        Check.same("its key", x.keyOf(0), 1);
        Check.same("the other one has none", x.keyOf(1), 0);
        x.edit(1, 99);
        Check.same("another file does not count", x.keyOf(0), 1);
        x.edit(0, 99);
        Check.same("an input does", x.keyOf(0), 0);
        x.edit(0, 10);
        Check.same("the content from before brings the key back", x.keyOf(0), 1);
        x.delete(0);
        Check.same("a deleted input counts", x.keyOf(0), 0);
        Check.same("run without inputs", x.run(0), 2);
        Repo.file(x, "a", 0);
        Check.same("content 0 is not the same as no input", x.keyOf(0), 0);
        x.edit(0, 10);
        Check.same("it is as at first", x.keyOf(0), 1);
        Repo.glob(x, 0, "b");
        Check.same("a new input", x.keyOf(0), 0);
        x.delete(1);
        Check.same("the glob itself does not count", x.keyOf(0), 1);
        Check.same("another target, the same inputs: another key", x.run(1), 3);
        Repo.glob(x, 1, "a");
        Check.same("run 1 with a", x.run(1), 4);
        Check.same("key of 0", x.keyOf(0), 1);
        Check.same("key of 1", x.keyOf(1), 4);
    }

    private static void promise21Dependencies() {
        Monobuild x = Repo.withFiles("a");
        x.addTarget(1);
        x.addTarget(1);
        x.addTarget(1);
        Repo.glob(x, 2, "a");
        Check.same("run 1 alone", x.run(1), 1);
        x.depend(1, 2);
        Check.same("a dependency that needs to run", x.keyOf(1), 0);
        Check.same("run 2", x.run(2), 2);
        Check.same("a new dependency", x.keyOf(1), 0);
        Check.same("run 1", x.run(1), 3);
        x.edit(0, 11);
        Check.same("2 needs to run", x.keyOf(2), 0);
        Check.same("so does 1", x.keyOf(1), 0);
        Check.same("run 2", x.run(2), 4);
        Check.same("1 still does", x.keyOf(1), 0);
        x.edit(0, 10);
        Check.same("2 as before", x.keyOf(2), 2);
        Check.same("1 as before", x.keyOf(1), 3);
        Check.same("run 0", x.run(0), 5);
        x.depend(1, 0);
        Check.same("one more dependency", x.keyOf(1), 0);
        Check.same("run 1 with both", x.run(1), 6);
        x.edit(0, 11);
        Check.same("another key of 2", x.keyOf(2), 4);
        Check.same("run 1 with that", x.run(1), 7);
        x.edit(0, 10);
        Check.same("the key for both", x.keyOf(1), 6);
    }

    private static void promise22Needed() {
        Monobuild x = Repo.withFiles("ab");
        for (int i = 0; i < 4; i++) {
            x.addTarget(1);
        }
        Check.same("all", x.needed(), 15);
        Repo.glob(x, 3, "a");
        x.depend(0, 3);
        x.depend(1, 0);
        x.run(3);
        Check.same("3 has run", x.needed(), 7);
        x.run(0);
        x.run(2);
        x.run(1);
        Check.same("none", x.needed(), 0);
        x.edit(0, 1);
        Check.same("3 and all above", x.needed(), 11);
        x.run(3);
        Check.same("those above", x.needed(), 3);
        x.edit(0, 10);
        Check.same("none again", x.needed(), 0);
        x.addTarget(5);
        Check.same("a new one", x.needed(), 16);
    }

    private static void promise23WhyRun() {
        Monobuild x = Repo.withFiles("ab");
        x.addTarget(1);
        x.addTarget(1);
        Repo.glob(x, 0, "a");
        Repo.glob(x, 1, "b");
        Check.same("never run", x.whyRun(0), 1);
        x.edit(0, 5);
        Check.same("never run, though edited", x.whyRun(0), 1);
        x.run(0);
        Check.same("needs not", x.whyRun(0), 0);
        x.edit(0, 6);
        Check.same("content", x.whyRun(0), 2);
        x.delete(0);
        Check.same("inputs", x.whyRun(0), 2);
        Repo.file(x, "a", 5);
        Check.same("needs not again", x.whyRun(0), 0);
        x.depend(0, 1);
        Check.same("otherwise: a dependency", x.whyRun(0), 3);
        x.edit(0, 7);
        Check.same("inputs come first", x.whyRun(0), 2);
        Check.same("never run comes first of all", x.whyRun(1), 1);
        x.runAll();
        Check.same("0 needs not", x.whyRun(0), 0);
        Check.same("1 needs not", x.whyRun(1), 0);
        x.edit(1, 1);
        Check.same("1: inputs", x.whyRun(1), 2);
        Check.same("0: otherwise", x.whyRun(0), 3);
        x.run(1);
        Check.same("0: otherwise, by the key of 1", x.whyRun(0), 3);
        Repo.glob(x, 0, "c");
        Check.same("0: a glob without files changes nothing", x.whyRun(0), 3);
        Repo.file(x, "c", 0);
        Check.same("0: a new file with content 0", x.whyRun(0), 2);
    }

    private static void promise23FoundLast() {
        Monobuild x = Repo.withFiles("ab");
        x.addTarget(1);
        x.addTarget(1);
        Repo.glob(x, 0, "a");
        Repo.glob(x, 1, "b");
        x.depend(0, 1);
        x.runAll();
        x.edit(0, 20);
        x.runAll();
        x.edit(0, 10);
        Check.same("found with its first key", x.run(0), 2);
        x.edit(1, 30);
        Check.same("found last with content 10", x.whyRun(0), 3);
        x.edit(0, 20);
        Check.same("content 20 was not found last", x.whyRun(0), 2);
        x.edit(1, 11);
        Check.same("but it has a key", x.keyOf(0), 3);
        Check.same("which keyOf does not count as found", x.whyRun(0), 0);
        x.edit(1, 30);
        Check.same("it was only looked at", x.whyRun(0), 2);
        x.edit(1, 11);
        Check.same("all are found", x.runAll(), 0);
        x.edit(1, 30);
        Check.same("found by runAll with content 20", x.whyRun(0), 3);
        x.edit(0, 10);
        Check.same("no more with content 10", x.whyRun(0), 2);
        Check.call("a run that throws finds nothing", () -> x.run(0), Repo.STATE);
        Check.same("still not with content 10", x.whyRun(0), 2);
    }

    private static void promise24Run() {
        Monobuild x = Repo.withFiles("a");
        x.addTarget(1);
        x.addTarget(1);
        x.addTarget(1);
        Repo.glob(x, 1, "a");
        x.depend(0, 1);
        x.depend(2, 0);
        Check.call("run(0) too early", () -> x.run(0), Repo.STATE);
        Check.call("run(2) too early", () -> x.run(2), Repo.STATE);
        Check.same("nothing given", x.keys(), 0);
        Check.same("run(1)", x.run(1), 1);
        Check.same("run(1) found", x.run(1), 1);
        Check.call("run(2) still too early", () -> x.run(2), Repo.STATE);
        Check.same("run(0)", x.run(0), 2);
        Check.same("run(2)", x.run(2), 3);
        x.edit(0, 11);
        Check.call("run(2) after an edit", () -> x.run(2), Repo.STATE);
        Check.call("run(0) after an edit", () -> x.run(0), Repo.STATE);
        Check.same("run(1) after an edit", x.run(1), 4);
        Check.same("run(0) with the new key", x.run(0), 5);
        x.edit(0, 10);
        Check.same("run(2) found", x.run(2), 3);
        Check.same("run(1) found", x.run(1), 1);
        Check.same("five keys", x.keys(), 5);
    }

    /** A repository in which a target with the file a as its input was given so many keys. */
    private static Monobuild withKeys(int count) {
        Monobuild x = Repo.withFiles("a");
        x.addTarget(1);
        Repo.glob(x, 0, "a");
        for (int i = 0; i < count; i++) {
            x.edit(0, i);
            Check.same("key " + (i + 1), x.run(0), i + 1);
        }
        return x;
    }

    private static void promise24NoKeysLeft() {
        Monobuild x = withKeys(200);
        x.edit(0, 9999);
        Check.same("needs to run", x.needed(), 1);
        Check.call("a 201st key", () -> x.run(0), Repo.STATE);
        Check.call("a 201st key, again", () -> x.run(0), Repo.STATE);
        Check.same("200 keys", x.keys(), 200);
        Check.same("why", x.whyRun(0), 2);
        x.edit(0, 0);
        Check.same("the first key is found", x.run(0), 1);
        x.edit(0, 199);
        Check.same("the last key is found", x.run(0), 200);
        Check.same("runAll finds too", x.runAll(), 0);
        wrongTargets(x);
    }

    private static void promise25RunAll() {
        Monobuild x = Repo.withFiles("abc");
        for (int i = 0; i < 4; i++) {
            x.addTarget(1);
        }
        Repo.glob(x, 0, "a");
        Repo.glob(x, 3, "b");
        x.depend(0, 3);
        x.depend(3, 2);
        Check.same("all run", x.runAll(), 4);
        Check.same("in their order: 1", x.keyOf(1), 1);
        Check.same("in their order: 2", x.keyOf(2), 2);
        Check.same("in their order: 3", x.keyOf(3), 3);
        Check.same("in their order: 0", x.keyOf(0), 4);
        Check.same("none run", x.runAll(), 0);
        x.edit(0, 50);
        Check.same("one runs", x.runAll(), 1);
        x.edit(1, 50);
        Check.same("two run", x.runAll(), 2);
        Check.same("keys", x.keys(), 7);
        x.edit(0, 10);
        Check.same("one was not with this one yet", x.runAll(), 1);
        x.edit(1, 11);
        Check.same("all found", x.runAll(), 0);
        Check.same("key of 0 as at first", x.keyOf(0), 4);
    }

    private static void promise25NoKeysLeft() {
        Monobuild x = withKeys(197);
        x.addTarget(1);
        x.addTarget(1);
        x.addTarget(1);
        x.depend(2, 3);
        x.edit(0, 300);
        Check.call("four more", () -> x.runAll(), Repo.STATE);
        Check.same("nothing was given", x.keys(), 197);
        Check.same("nothing has run", x.needed(), 15);
        Check.same("why 0", x.whyRun(0), 2);
        Check.same("why 1", x.whyRun(1), 1);
        x.edit(0, 100);
        Check.same("0 has a key", x.keyOf(0), 101);
        Check.same("three more", x.runAll(), 3);
        Check.same("200 keys", x.keys(), 200);
        Check.same("key of 1", x.keyOf(1), 198);
        Check.same("key of 3", x.keyOf(3), 199);
        Check.same("key of 2", x.keyOf(2), 200);
        x.depend(0, 1);
        x.edit(0, 9000);
        x.addTarget(1);
        Check.call("one more", () -> x.runAll(), Repo.STATE);
        Check.same("why 0, inputs", x.whyRun(0), 2);
        x.edit(0, 100);
        Check.call("one more of 0 and 4", () -> x.runAll(), Repo.STATE);
        Check.same("why 0, otherwise", x.whyRun(0), 3);
        Check.call("run 4", () -> x.run(4), Repo.STATE);
        Check.same("run 3 is found", x.run(3), 199);
        foundOnlyIfNothingThrows();
    }

    private static void foundOnlyIfNothingThrows() {
        Monobuild x = withKeys(200);
        x.edit(0, 50);
        x.addTarget(1);
        Check.call("one key too many", () -> x.runAll(), Repo.STATE);
        x.edit(0, 5000);
        Check.same("not those of the last run", x.whyRun(0), 2);
        x.edit(0, 50);
        x.depend(0, 1);
        Check.same("0 was not found by what threw", x.whyRun(0), 2);
        x.edit(0, 199);
        Check.same("it ran with this last", x.whyRun(0), 3);
    }

    private static void promise26Keys() {
        Monobuild x = Repo.withTargets(1, 1);
        Check.same("none", x.keys(), 0);
        x.run(1);
        Check.same("one", x.keys(), 1);
        x.run(1);
        Check.same("still one", x.keys(), 1);
        x.runAll();
        Check.same("two", x.keys(), 2);
    }
}
