/** Promises 27 to 29: shards. */
public final class ShardsTest {
    private ShardsTest() {
    }

    public static void main(String[] args) {
        promise27ShardOf();
        promise27OnlyNeeded();
        promise28LongestShard();
        promise29ShardsFor();
        asTheyAreNow();
        Check.finish("ShardsTest");
    }

    private static void shards(Monobuild x, int shards, int... due) {
        for (int target = 0; target < due.length; target++) {
            Check.same("shardOf(" + target + ", " + shards + ")", x.shardOf(target, shards), due[target]);
        }
    }

    private static void promise27ShardOf() {
        Monobuild x = Repo.withTargets(3, 7, 7, 5, 1, 7);
        shards(x, 1, 0, 0, 0, 0, 0, 0);
        // 7 to 0 and 1, the third 7 to 0, 5 to 1, 3 to 1 (12 against 14), 1 to 0.
        shards(x, 2, 1, 0, 1, 1, 0, 0);
        // 7 7 7, 5 to 0, 3 to 1, 1 to 2.
        shards(x, 3, 1, 0, 1, 0, 2, 2);
        // 7 7 7 5, 3 to 3, 1 to 0.
        shards(x, 4, 3, 0, 1, 3, 0, 2);
        shards(x, 8, 4, 0, 1, 3, 5, 2);
        Check.call("shardOf(6, 1)", () -> x.shardOf(6, 1), Repo.INDEX);
        Check.call("shardOf(-1, 1)", () -> x.shardOf(-1, 1), Repo.INDEX);
        Check.call("shardOf(6, 0)", () -> x.shardOf(6, 0), Repo.INDEX);
        for (int wrong : new int[] {0, -1, 9, Integer.MAX_VALUE, Integer.MIN_VALUE}) {
            Check.call("shardOf(0, " + wrong + ")", () -> x.shardOf(0, wrong), Repo.ARGUMENT);
        }
    }

    private static void promise27OnlyNeeded() {
        Monobuild x = Repo.withTargets(4, 9, 4, 6);
        x.run(1);
        shards(x, 2, 1, -1, 1, 0);
        x.run(3);
        shards(x, 2, 0, -1, 1, -1);
        x.runAll();
        shards(x, 2, -1, -1, -1, -1);
        Check.call("not needed, shards wrong", () -> x.shardOf(0, 9), Repo.ARGUMENT);
    }

    private static void promise28LongestShard() {
        Monobuild x = Repo.withTargets(3, 7, 7, 5, 1, 7);
        int[] due = {30, 15, 12, 8, 7, 7, 7, 7};
        for (int shards = 1; shards <= 8; shards++) {
            Check.same("longestShard(" + shards + ")", x.longestShard(shards), due[shards - 1]);
        }
        x.run(1);
        Check.same("longest of what is needed", x.longestShard(2), 12);
        x.runAll();
        Check.same("longest of nothing", x.longestShard(2), 0);
        for (int wrong : new int[] {0, -1, 9, 32, Integer.MAX_VALUE}) {
            Check.call("longestShard(" + wrong + ")", () -> x.longestShard(wrong), Repo.ARGUMENT);
        }
        Monobuild full = new Monobuild();
        for (int i = 0; i < 16; i++) {
            full.addTarget(1000);
        }
        Check.same("the longest that can be", full.longestShard(1), 16000);
        Check.same("spread over 8", full.longestShard(8), 2000);
        Check.same("spread over 7", full.longestShard(7), 3000);
    }

    private static void promise29ShardsFor() {
        Monobuild x = Repo.withTargets(3, 7, 7, 5, 1, 7);
        int[][] due = {{30, 1}, {16000, 1}, {29, 2}, {15, 2}, {14, 3}, {12, 3}, {11, 4}, {8, 4}, {7, 5},
            {6, -1}, {1, -1}};
        for (int[] row : due) {
            Check.same("shardsFor(" + row[0] + ")", x.shardsFor(row[0]), row[1]);
        }
        for (int wrong : new int[] {0, -1, 16001, Integer.MAX_VALUE, Integer.MIN_VALUE}) {
            Check.call("shardsFor(" + wrong + ")", () -> x.shardsFor(wrong), Repo.ARGUMENT);
        }
        x.runAll();
        Check.same("shardsFor of nothing", x.shardsFor(1), 1);
        Monobuild full = new Monobuild();
        for (int i = 0; i < 16; i++) {
            full.addTarget(1000);
        }
        Check.same("all in one", full.shardsFor(16000), 1);
        Check.same("all in two", full.shardsFor(15999), 2);
        Check.same("all in eight", full.shardsFor(2000), 8);
        Check.same("all in none", full.shardsFor(1999), Monobuild.NONE);
    }

    /** All three look at the targets as they are at the call, whatever was asked before. */
    private static void asTheyAreNow() {
        Monobuild x = Repo.withFiles("a");
        x.addTarget(4);
        x.addTarget(6);
        Repo.glob(x, 0, "a");
        x.runAll();
        x.edit(0, 1);
        Check.same("longestShard after an edit", x.longestShard(2), 4);
        x.edit(0, 10);
        Check.same("shardOf after the edit back", x.shardOf(0, 2), -1);
        x.edit(0, 1);
        Check.same("shardsFor after an edit", x.shardsFor(3), -1);
        x.edit(0, 10);
        Check.same("longestShard after the edit back", x.longestShard(2), 0);
        x.edit(0, 1);
        Check.same("shardOf after an edit", x.shardOf(0, 2), 0);
        x.edit(0, 10);
        Check.same("shardsFor after the edit back", x.shardsFor(3), 1);
        Check.same("none of these runs anything", x.keys(), 2);
    }
}
