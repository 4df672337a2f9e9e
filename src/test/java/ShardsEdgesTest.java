import java.util.Arrays;

/** The boundary cases of shards: "Terms" and promises 27 to 29, a sentence each. */
public final class ShardsEdgesTest {
    private static final int[] NO_SHARDS = {0, -1, 9, 16, 32, 33, Integer.MAX_VALUE, Integer.MIN_VALUE};

    private ShardsEdgesTest() {
    }

    public static void main(String[] args) {
        promise27FirstAndLastShard();
        promise27SameCost();
        promise27SameLoad();
        promise27NeedsNotToRun();
        promise27NoSuchTarget();
        promise27ShardsOutOfRange();
        promise27IndexGoesFirst();
        promise28NoTargetNeedsToRun();
        promise28OneTo8Shards();
        promise28GreatestCost();
        promise28ShardsOutOfRange();
        promise29NotAboveTheLimit();
        promise29LowestAndHighestLimit();
        promise29EightAndNone();
        promise29NoTargetNeedsToRun();
        promise29LimitOutOfRange();
        Check.finish("ShardsEdgesTest");
    }

    private static Monobuild with16Targets(int cost) {
        int[] costs = new int[16];
        Arrays.fill(costs, cost);
        return Repo.withTargets(costs);
    }

    private static void promise27FirstAndLastShard() {
        Monobuild x = with16Targets(1000);
        for (int target = 0; target < 16; target++) {
            Check.same("Promise 27: target " + target + " with 1 shard", x.shardOf(target, 1), 0);
            Check.same("Promise 27: target " + target + " with 8 shards", x.shardOf(target, 8), target % 8);
        }
        Monobuild y = Repo.withTargets(1);
        Check.same("Promise 27: more shards than targets", y.shardOf(0, 8), 0);
    }

    private static void promise27SameCost() {
        Monobuild x = Repo.withTargets(2, 5, 2, 5);
        int[] due = {0, 0, 1, 1};
        for (int target = 0; target < 4; target++) {
            Check.same("Promise 27: of the same cost by rising number, " + target, x.shardOf(target, 2), due[target]);
        }
        Monobuild y = Repo.withTargets(1, 1000, 999);
        Check.same("Promise 27: the greatest cost goes first", y.shardOf(1, 3), 0);
        Check.same("Promise 27: the next one behind it", y.shardOf(2, 3), 1);
        Check.same("Promise 27: the least cost goes last", y.shardOf(0, 3), 2);
    }

    private static void promise27SameLoad() {
        Monobuild x = Repo.withTargets(3, 3, 2, 1, 1);
        int[] due = {0, 1, 2, 2, 0};
        for (int target = 0; target < 5; target++) {
            Check.same("Promise 27: of the same cost by then the lowest shard, " + target,
                    x.shardOf(target, 3), due[target]);
        }
    }

    private static void promise27NeedsNotToRun() {
        Check.same("Promise 27: a target that has a key", Repo.busy().shardOf(0, 1), Monobuild.NONE);
        Check.same("Promise 27: it takes no room on a shard", Repo.busy().shardOf(1, 2), 1);
        Monobuild x = with16Targets(1);
        x.runAll();
        for (int target = 0; target < 16; target++) {
            Check.same("Promise 27: none of 16 needs to run", x.shardOf(target, 8), Monobuild.NONE);
        }
    }

    private static void promise27NoSuchTarget() {
        Refusal.noTarget("Promise 27", (x, target) -> x.shardOf(target, 1));
    }

    private static void promise27ShardsOutOfRange() {
        for (int shards : NO_SHARDS) {
            Refusal.check("Promise 27: " + shards + " shards", Repo.ARGUMENT, Repo::busy,
                    x -> x.shardOf(1, shards));
            Refusal.check("Promise 27: " + shards + " shards, and the target needs not to run", Repo.ARGUMENT,
                    Repo::busy, x -> x.shardOf(0, shards));
        }
    }

    private static void promise27IndexGoesFirst() {
        for (int shards : new int[] {0, 9}) {
            Refusal.check("Promise 27: no target -1, and " + shards + " shards", Repo.INDEX, Repo::busy,
                    x -> x.shardOf(-1, shards));
            Refusal.check("Promise 27: no target 4, and " + shards + " shards", Repo.INDEX, Repo::busy,
                    x -> x.shardOf(4, shards));
        }
    }

    private static void promise28NoTargetNeedsToRun() {
        for (int shards = 1; shards <= 8; shards++) {
            Check.same("Promise 28: no targets, " + shards + " shards", new Monobuild().longestShard(shards), 0);
            Monobuild x = with16Targets(1000);
            x.runAll();
            Check.same("Promise 28: none needs to run, " + shards + " shards", x.longestShard(shards), 0);
        }
    }

    private static void promise28OneTo8Shards() {
        int[] due = {16000, 8000, 6000, 4000, 4000, 3000, 3000, 2000};
        for (int shards = 1; shards <= 8; shards++) {
            Check.same("Promise 28: the greatest costs, " + shards + " shards",
                    with16Targets(1000).longestShard(shards), due[shards - 1]);
        }
    }

    private static void promise28GreatestCost() {
        Check.same("Promise 28: one target, cost 1, and 8 shards", Repo.withTargets(1).longestShard(8), 1);
        Check.same("Promise 28: the first shard is the longest", Repo.withTargets(9, 1, 1).longestShard(3), 9);
        Check.same("Promise 28: the last shard is the longest", Repo.withTargets(3, 2, 2).longestShard(2), 4);
        Check.same("Promise 28: of those that need to run", Repo.busy().longestShard(2), 8);
    }

    private static void promise28ShardsOutOfRange() {
        for (int shards : NO_SHARDS) {
            Refusal.check("Promise 28: " + shards + " shards", Repo.ARGUMENT, Repo::busy,
                    x -> x.longestShard(shards));
            Refusal.check("Promise 28: " + shards + " shards, and no targets", Repo.ARGUMENT, Monobuild::new,
                    x -> x.longestShard(shards));
        }
    }

    private static void promise29NotAboveTheLimit() {
        Monobuild x = Repo.withTargets(6, 4);
        Check.same("Promise 29: all in one, as great as the limit", x.shardsFor(10), 1);
        Check.same("Promise 29: all in one, above the limit by 1", x.shardsFor(9), 2);
        Check.same("Promise 29: the longest of two, as great as the limit", x.shardsFor(6), 2);
        Check.same("Promise 29: the longest of two, above the limit by 1", x.shardsFor(5), Monobuild.NONE);
    }

    private static void promise29LowestAndHighestLimit() {
        Check.same("Promise 29: limit 1", Repo.withTargets(1).shardsFor(1), 1);
        Check.same("Promise 29: limit 1, eight targets", Repo.withTargets(1, 1, 1, 1, 1, 1, 1, 1).shardsFor(1), 8);
        Check.same("Promise 29: limit 16000", with16Targets(1000).shardsFor(16000), 1);
        Check.same("Promise 29: limit 15999", with16Targets(1000).shardsFor(15999), 2);
    }

    private static void promise29EightAndNone() {
        Check.same("Promise 29: 8", with16Targets(1000).shardsFor(2000), 8);
        Check.same("Promise 29: NONE above 8", with16Targets(1000).shardsFor(1999), Monobuild.NONE);
        Check.same("Promise 29: NONE with nine targets", Repo.withTargets(1, 1, 1, 1, 1, 1, 1, 1, 1).shardsFor(1),
                Monobuild.NONE);
        Check.same("Promise 29: NONE with one target", Repo.withTargets(2).shardsFor(1), Monobuild.NONE);
    }

    private static void promise29NoTargetNeedsToRun() {
        Check.same("Promise 29: no targets", new Monobuild().shardsFor(1), 1);
        Monobuild x = with16Targets(1000);
        x.runAll();
        Check.same("Promise 29: none needs to run", x.shardsFor(1), 1);
    }

    private static void promise29LimitOutOfRange() {
        for (int limit : new int[] {0, -1, 16001, 65537, Integer.MAX_VALUE, Integer.MIN_VALUE}) {
            Refusal.check("Promise 29: limit " + limit, Repo.ARGUMENT, Repo::busy, x -> x.shardsFor(limit));
            Refusal.check("Promise 29: limit " + limit + ", and no targets", Repo.ARGUMENT, Monobuild::new,
                    x -> x.shardsFor(limit));
        }
    }
}
