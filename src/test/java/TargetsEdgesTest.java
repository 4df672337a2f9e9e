/** The boundary cases of targets and of what is affected: "Terms" and promises 12 to 20, a sentence each. */
public final class TargetsEdgesTest {
    private static final int ALL_TARGETS = (1 << 16) - 1;
    private static final int ALL_FILES = (1 << 24) - 1;

    private TargetsEdgesTest() {
    }

    public static void main(String[] args) {
        promise12LowestAndHighestCost();
        promise12CostOutOfRange();
        promise12There16Targets();
        promise12ArgumentGoesFirst();
        promise12WithoutGlobsAndDependencies();
        promise13NoneAndAllInputs();
        promise13NoSuchTarget();
        promise13NoGlob();
        promise13TargetHas4Globs();
        promise13WhichGoesFirst();
        promise14OneTo15();
        promise14NoSuchTargetOrOther();
        promise14DependsAlready();
        promise14BothAreTheSame();
        promise14OtherOneIsAbove();
        promise14IndexGoesFirst();
        promise14WhatIsNotRefused();
        promise15NoneAndAll();
        promise16NoneAndAll();
        promise16OnlyFilesThatAreThere();
        promise16NoSuchTarget();
        promise17NoneAndAll();
        promise17NotItself();
        promise17NoSuchTarget();
        promise18FirstAndLastPlace();
        promise18NotSoManyTargets();
        promise18LowestNumberThatIsFree();
        promise19And20NoneAndAll();
        promise19And20DeletedOrNot();
        promise19And20NoSuchFile();
        Check.finish("TargetsEdgesTest");
    }

    private static void promise12LowestAndHighestCost() {
        Monobuild x = new Monobuild();
        Check.same("Promise 12: cost 1", x.addTarget(1), 0);
        Check.same("Promise 12: cost 1 stands", x.longestShard(1), 1);
        Check.same("Promise 12: cost 1000", x.addTarget(1000), 1);
        Check.same("Promise 12: cost 1000 stands", x.longestShard(2), 1000);
    }

    private static void promise12CostOutOfRange() {
        for (int cost : new int[] {0, -1, 1001, 65537, Integer.MAX_VALUE, Integer.MIN_VALUE}) {
            Refusal.check("Promise 12: cost " + cost, Repo.ARGUMENT, Repo::busy, x -> x.addTarget(cost));
            Refusal.check("Promise 12: the first one, cost " + cost, Repo.ARGUMENT, Monobuild::new,
                    x -> x.addTarget(cost));
        }
    }

    private static void promise12There16Targets() {
        Monobuild x = new Monobuild();
        for (int target = 0; target < 16; target++) {
            Check.same("Promise 12: target " + target, x.addTarget(1), target);
        }
        Refusal.check("Promise 12: a 17th target", Repo.STATE, Repo::full, y -> y.addTarget(1));
    }

    private static void promise12ArgumentGoesFirst() {
        for (int cost : new int[] {0, 1001}) {
            Refusal.check("Promise 12: a 17th target, cost " + cost, Repo.ARGUMENT, Repo::full,
                    x -> x.addTarget(cost));
        }
    }

    private static void promise12WithoutGlobsAndDependencies() {
        Monobuild x = Repo.busy();
        int target = x.addTarget(1);
        Check.same("Promise 12: without globs", x.inputs(target), 0);
        Check.same("Promise 12: without dependencies", x.run(target), x.keys());
        Check.same("Promise 12: none is above it", x.above(target), 0);
        Check.same("Promise 12: its first dependency", x.depend(target, 0), 1);
    }

    private static void promise13NoneAndAllInputs() {
        Monobuild x = Repo.busyWith("z");
        Check.same("Promise 13: a glob that matches none", x.addGlob(2), 0);
        Check.same("Promise 13: a glob that matches a deleted file alone", Repo.glob(x, 2, "e"), 0);
        Check.same("Promise 13: a glob that matches what another one does", Repo.glob(x, 0, "?"), 3);
        Monobuild y = Repo.withFiles("abcdefghijklmnopqrstuvwx");
        y.addTarget(1);
        Check.same("Promise 13: a glob that matches 24 files", Repo.glob(y, 0, "*"), 24);
    }

    private static void promise13NoSuchTarget() {
        Refusal.noTarget("Promise 13", (x, target) -> x.addGlob(target));
    }

    private static void promise13NoGlob() {
        Refusal.noGlob("Promise 13", Repo.ARGUMENT, x -> x.addGlob(0));
    }

    private static void promise13TargetHas4Globs() {
        Monobuild x = Repo.withFiles("abcd");
        x.addTarget(1);
        for (int glob = 0; glob < 4; glob++) {
            Check.same("Promise 13: glob " + glob, Repo.glob(x, 0, "abcd".substring(glob, glob + 1)), glob + 1);
        }
        Check.same("Promise 13: all four stand", x.inputs(0), 15);
        for (String text : new String[] {"**", "c", "q", "a"}) {
            Refusal.check("Promise 13: a fifth glob " + text, Repo.STATE, () -> Repo.busyWith(text),
                    y -> y.addGlob(3));
        }
        Refusal.check("Promise 13: a fifth glob of the last target", Repo.STATE, Repo::full,
                y -> y.addGlob(15));
        Monobuild y = Repo.busyWith("b");
        Check.call("Promise 13: a fifth glob", () -> y.addGlob(3), Repo.STATE);
        Check.same("Promise 13: another target has its own globs", y.addGlob(0), 2);
    }

    private static void promise13WhichGoesFirst() {
        for (int target : new int[] {-1, 4}) {
            Refusal.check("Promise 13: no glob, and no target " + target, Repo.INDEX, () -> Repo.busyWith("a**"),
                    x -> x.addGlob(target));
            Refusal.check("Promise 13: no text, and no target " + target, Repo.INDEX, () -> Repo.busyWith(""),
                    x -> x.addGlob(target));
        }
        Refusal.check("Promise 13: no glob, and the target has 4", Repo.ARGUMENT, () -> Repo.busyWith("a**"),
                x -> x.addGlob(3));
        Refusal.check("Promise 13: no text, and the target has 4", Repo.ARGUMENT, () -> Repo.busyWith(""),
                x -> x.addGlob(3));
    }

    private static Monobuild with16Targets() {
        Monobuild x = new Monobuild();
        for (int target = 0; target < 16; target++) {
            x.addTarget(1 + target);
        }
        return x;
    }

    private static void promise14OneTo15() {
        Monobuild x = with16Targets();
        for (int other = 0; other < 15; other++) {
            Check.same("Promise 14: the last target on " + other, x.depend(15, other), other + 1);
        }
        Monobuild y = with16Targets();
        for (int other = 1; other < 16; other++) {
            Check.same("Promise 14: the first target on " + other, y.depend(0, other), other);
        }
    }

    private static void promise14NoSuchTargetOrOther() {
        Refusal.noTarget("Promise 14, the target", (x, wrong) -> x.depend(wrong, 0));
        Refusal.noTarget("Promise 14, the other", (x, wrong) -> x.depend(3, wrong));
        Refusal.outside("Promise 14: beside 16 without dependencies no target ", 16,
                TargetsEdgesTest::with16Targets, (x, wrong) -> x.depend(wrong, 0));
        Refusal.outside("Promise 14: beside 16 without dependencies no other ", 16,
                TargetsEdgesTest::with16Targets, (x, wrong) -> x.depend(15, wrong));
    }

    private static void promise14DependsAlready() {
        Refusal.check("Promise 14: it depends on the other one already", Repo.STATE, Repo::busy,
                x -> x.depend(1, 0));
        Refusal.check("Promise 14: the last one of 16 depends already", Repo.STATE, Repo::full,
                x -> x.depend(15, 14));
    }

    private static void promise14BothAreTheSame() {
        for (int target = 0; target < 4; target++) {
            int same = target;
            Refusal.check("Promise 14: both are " + target, Repo.STATE, Repo::busy, x -> x.depend(same, same));
        }
        Refusal.check("Promise 14: both are the last one of 16", Repo.STATE,
                TargetsEdgesTest::with16Targets, x -> x.depend(15, 15));
    }

    private static void promise14OtherOneIsAbove() {
        Refusal.check("Promise 14: the other one depends on it", Repo.STATE, Repo::busy, x -> x.depend(0, 1));
        Refusal.check("Promise 14: the other one is above it, two up", Repo.STATE, Repo::busy,
                x -> x.depend(0, 2));
        Refusal.check("Promise 14: the other one is above it, 15 up", Repo.STATE, Repo::full,
                x -> x.depend(0, 15));
    }

    private static void promise14IndexGoesFirst() {
        Refusal.check("Promise 14: both are the same, and none is there", Repo.INDEX, Repo::busy,
                x -> x.depend(4, 4));
        Refusal.check("Promise 14: both are -1", Repo.INDEX, Repo::busy, x -> x.depend(-1, -1));
        Refusal.check("Promise 14: both are 16, beside 16", Repo.INDEX, Repo::full, x -> x.depend(16, 16));
    }

    private static void promise14WhatIsNotRefused() {
        Monobuild x = Repo.busy();
        Check.same("Promise 14: it is above the other one, but does not depend on it", x.depend(2, 0), 2);
        Check.same("Promise 14: both have the same one above", x.depend(1, 3), 2);
        Check.same("Promise 14: both depend on the same one", x.depend(0, 3), 1);
    }

    private static void promise15NoneAndAll() {
        Check.same("Promise 15: no targets", new Monobuild().targets(), 0);
        Check.same("Promise 15: one target", Repo.withTargets(1).targets(), 1);
        Monobuild x = with16Targets();
        Check.same("Promise 15: 16 targets", x.targets(), 16);
        Check.call("Promise 15: a 17th", () -> x.addTarget(1), Repo.STATE);
        Check.same("Promise 15: still 16 targets", x.targets(), 16);
    }

    private static void promise16NoneAndAll() {
        Monobuild x = Repo.withFiles("abcdefghijklmnopqrstuvwx");
        x.addTarget(1);
        Check.same("Promise 16: without globs", x.inputs(0), 0);
        Repo.glob(x, 0, "z");
        Check.same("Promise 16: a glob that matches none", x.inputs(0), 0);
        Repo.glob(x, 0, "x");
        Check.same("Promise 16: the last one of 24 files", x.inputs(0), 1 << 23);
        Repo.glob(x, 0, "a");
        Check.same("Promise 16: the first one too", x.inputs(0), 1 << 23 | 1);
        Repo.glob(x, 0, "*");
        Check.same("Promise 16: all 24 files", x.inputs(0), ALL_FILES);
    }

    private static void promise16OnlyFilesThatAreThere() {
        Monobuild x = Repo.full();
        Check.same("Promise 16: not the deleted one of 24", x.inputs(15), ALL_FILES & ~(1 << 5));
        Repo.file(x, "f", 1);
        Check.same("Promise 16: it is there again", x.inputs(15), ALL_FILES);
        for (int file = 0; file < 24; file++) {
            x.delete(file);
        }
        Check.same("Promise 16: all are deleted", x.inputs(15), 0);
    }

    private static void promise16NoSuchTarget() {
        Refusal.noTarget("Promise 16", (x, target) -> x.inputs(target));
    }

    private static void promise17NoneAndAll() {
        Monobuild x = Repo.full();
        for (int target = 0; target < 16; target++) {
            Check.same("Promise 17: above " + target + " in a chain", x.above(target), ALL_TARGETS & -2 << target);
        }
        Monobuild y = with16Targets();
        for (int target = 0; target < 16; target++) {
            Check.same("Promise 17: nobody above " + target, y.above(target), 0);
        }
    }

    private static void promise17NotItself() {
        Monobuild x = Repo.withTargets(1, 1);
        Check.call("Promise 17: a refused dependency on itself", () -> x.depend(0, 0), Repo.STATE);
        Check.same("Promise 17: no target is above itself", x.above(0), 0);
        x.depend(0, 1);
        Check.call("Promise 17: a refused circle", () -> x.depend(1, 0), Repo.STATE);
        Check.same("Promise 17: the upper one is not above itself", x.above(0), 0);
        Check.same("Promise 17: the lower one is not above itself", x.above(1), 1);
    }

    private static void promise17NoSuchTarget() {
        Refusal.noTarget("Promise 17", (x, target) -> x.above(target));
    }

    private static void promise18FirstAndLastPlace() {
        Check.same("Promise 18: the only target", Repo.withTargets(1).orderAt(0), 0);
        Monobuild x = with16Targets();
        for (int target = 0; target < 15; target++) {
            x.depend(target, target + 1);
        }
        for (int place = 0; place < 16; place++) {
            Check.same("Promise 18: place " + place + " of a chain", x.orderAt(place), 15 - place);
            Check.same("Promise 18: place " + place + " by number", with16Targets().orderAt(place), place);
        }
    }

    private static void promise18NotSoManyTargets() {
        Refusal.outside("Promise 18: without targets no place ", 0, Monobuild::new, (x, place) -> x.orderAt(place));
        Refusal.outside("Promise 18: no place ", 4, Repo::busy, (x, place) -> x.orderAt(place));
        Refusal.outside("Promise 18: beside 16 targets no place ", 16, Repo::full, (x, place) -> x.orderAt(place));
    }

    private static void promise18LowestNumberThatIsFree() {
        Monobuild x = Repo.withTargets(1, 1, 1, 1);
        x.depend(0, 2);
        int[] due = {1, 2, 0, 3};
        for (int place = 0; place < 4; place++) {
            Check.same("Promise 18: the lowest that is free, place " + place, x.orderAt(place), due[place]);
        }
        x.depend(0, 3);
        int[] dueThen = {1, 2, 3, 0};
        for (int place = 0; place < 4; place++) {
            Check.same("Promise 18: all its dependencies ahead, place " + place, x.orderAt(place), dueThen[place]);
        }
    }

    private static void affected(String what, Monobuild x, int file, int due) {
        Check.same("Promise 19: " + what, x.affectedBy(file), due);
        Check.same("Promise 20: " + what, x.affectedByGoingDown(file), due);
    }

    private static void promise19And20NoneAndAll() {
        affected("without targets", Repo.withFiles("a"), 0, 0);
        affected("no glob matches", Repo.busyWith("a"), 2, 0b1000);
        Monobuild x = Repo.full();
        affected("all 16 by their globs, the first file", x, 0, ALL_TARGETS);
        affected("all 16 by their globs, the last file", x, 23, ALL_TARGETS);
        Monobuild y = with16Targets();
        Repo.file(y, "a", 1);
        affected("16 without globs", y, 0, 0);
        for (int target = 0; target < 15; target++) {
            y.depend(target, target + 1);
        }
        y.addGlob(0);
        affected("none above the upper one of a chain", y, 0, 1);
        y.addGlob(15);
        affected("all above the lowest one of a chain", y, 0, ALL_TARGETS);
    }

    private static void promise19And20DeletedOrNot() {
        affected("a file that is there", Repo.busy(), 0, 0b0111);
        affected("a deleted file", Repo.busy(), 3, 0b0110);
        affected("a deleted one of 24 files", Repo.full(), 5, ALL_TARGETS);
    }

    private static void promise19And20NoSuchFile() {
        Refusal.noFile("Promise 19", (x, file) -> x.affectedBy(file));
        Refusal.noFile("Promise 20", (x, file) -> x.affectedByGoingDown(file));
    }
}
