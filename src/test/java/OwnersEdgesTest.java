/** The boundary cases of owners, marks and reviewers: "Terms" and promises 30 to 34, a sentence each. */
public final class OwnersEdgesTest {
    private static final int ALL = (1 << 24) - 1;

    private OwnersEdgesTest() {
    }

    public static void main(String[] args) {
        promise30LowestAndHighestOwner();
        promise30NoSuchOwner();
        promise30NoGlob();
        promise30There12Rules();
        promise30WhichGoesFirst();
        promise31NoRuleMatches();
        promise31LatestRule();
        promise31DeletedOrNot();
        promise31NoSuchFile();
        promise32NoneAndAll();
        promise32AheadOfTheFirstMark();
        promise33NoneAndAll();
        promise33ThereNowAndNotThen();
        promise33ThereThenAndNotNow();
        promise33AnotherContent();
        promise33NeitherThenNorNow();
        promise34NoneAndAll();
        promise34LatestRule();
        promise34DeletedFiles();
        Check.finish("OwnersEdgesTest");
    }

    private static void promise30LowestAndHighestOwner() {
        Monobuild x = Repo.withFiles("ab");
        Check.same("Promise 30: owner 0", Repo.rule(x, "a", 0), 1);
        Check.same("Promise 30: owner 7", Repo.rule(x, "b", 7), 2);
        Check.same("Promise 30: owner 0 stands", x.ownerOf(0), 0);
        Check.same("Promise 30: owner 7 stands", x.ownerOf(1), 7);
    }

    private static void promise30NoSuchOwner() {
        Refusal.outside("Promise 30: no owner ", 8, Repo::busy, (x, owner) -> x.addRule(owner));
    }

    private static void promise30NoGlob() {
        Refusal.noGlob("Promise 30", Repo.ARGUMENT, x -> x.addRule(0));
    }

    private static void promise30There12Rules() {
        Monobuild x = Repo.withFiles("abcdefghijkl");
        for (int rule = 1; rule <= 12; rule++) {
            Check.same("Promise 30: rule " + rule,
                    Repo.rule(x, "abcdefghijkl".substring(rule - 1, rule), rule % 8), rule);
        }
        for (int file = 0; file < 12; file++) {
            Check.same("Promise 30: all 12 rules stand, " + file, x.ownerOf(file), (file + 1) % 8);
        }
        Refusal.check("Promise 30: a 13th rule", Repo.STATE, Repo::full, y -> y.addRule(6));
        Refusal.check("Promise 30: a 13th rule with another glob", Repo.STATE,
                () -> Repo.fullWith("**"), y -> y.addRule(0));
    }

    private static void promise30WhichGoesFirst() {
        for (int owner : new int[] {-1, 8}) {
            Refusal.check("Promise 30: no glob, and no owner " + owner, Repo.INDEX, () -> Repo.busyWith("a**"),
                    x -> x.addRule(owner));
            Refusal.check("Promise 30: no text, and no owner " + owner, Repo.INDEX, () -> Repo.busyWith(""),
                    x -> x.addRule(owner));
            Refusal.check("Promise 30: a 13th rule, and no owner " + owner, Repo.INDEX, Repo::full,
                    x -> x.addRule(owner));
        }
        Refusal.check("Promise 30: a 13th rule, and no glob", Repo.ARGUMENT,
                () -> Repo.fullWith("a**"), x -> x.addRule(0));
        Refusal.check("Promise 30: a 13th rule, and no text", Repo.ARGUMENT,
                () -> Repo.fullWith(""), x -> x.addRule(0));
    }

    private static void promise31NoRuleMatches() {
        Monobuild x = Repo.withFiles("ab");
        Check.same("Promise 31: NONE without rules", x.ownerOf(0), Monobuild.NONE);
        Repo.rule(x, "b", 0);
        Check.same("Promise 31: NONE if no rule matches", x.ownerOf(0), Monobuild.NONE);
        Check.same("Promise 31: owner 0 is not NONE", x.ownerOf(1), 0);
    }

    private static void promise31LatestRule() {
        Monobuild x = Repo.withFiles("ab");
        Repo.rule(x, "*", 7);
        Repo.rule(x, "*", 0);
        Repo.rule(x, "b", 3);
        Check.same("Promise 31: the latest rule that matches, not the last one", x.ownerOf(0), 0);
        Check.same("Promise 31: the latest rule", x.ownerOf(1), 3);
        Check.same("Promise 31: the first of 24 files, the 12th rule", Repo.full().ownerOf(0), 3);
        Check.same("Promise 31: the last of 24 files, the 12th rule", Repo.full().ownerOf(23), 3);
        Repo.file(x, "c", 1);
        Check.same("Promise 31: a file behind the rules", x.ownerOf(2), 0);
    }

    private static void promise31DeletedOrNot() {
        Check.same("Promise 31: a deleted file", Repo.busy().ownerOf(3), 2);
        Check.same("Promise 31: a deleted one of 24", Repo.full().ownerOf(5), 3);
        Monobuild x = Repo.busyWith("e");
        x.addRule(0);
        Check.same("Promise 31: a rule behind the deleting", x.ownerOf(3), 0);
    }

    private static void promise31NoSuchFile() {
        Refusal.noFile("Promise 31", (x, file) -> x.ownerOf(file));
    }

    private static void promise32NoneAndAll() {
        Check.same("Promise 32: no files", new Monobuild().mark(), 0);
        Check.same("Promise 32: all 24 files", Repo.withFiles("abcdefghijklmnopqrstuvwx").mark(), 24);
        Check.same("Promise 32: one of 24 is deleted", Repo.full().mark(), 23);
        Monobuild x = Repo.withFiles("a");
        x.delete(0);
        Check.same("Promise 32: the only one is deleted", x.mark(), 0);
        Monobuild y = Repo.busy();
        y.mark();
        Check.same("Promise 32: once more", y.mark(), 3);
        Check.same("Promise 32: none changed since", y.changed(), 0);
    }

    private static void promise32AheadOfTheFirstMark() {
        Monobuild x = Repo.withFiles("abcdefghijklmnopqrstuvwx");
        x.edit(3, 0);
        Check.same("Promise 32: ahead of the first mark none was there", x.changed(), ALL);
        x.delete(3);
        Check.same("Promise 32: a deleted one neither", x.changed(), ALL & ~8);
        x.mark();
        Check.same("Promise 32: behind it they were", x.changed(), 0);
        Monobuild y = new Monobuild();
        y.mark();
        Repo.file(y, "a", 0);
        Check.same("Promise 32: a mark without files", y.changed(), 1);
    }

    private static void promise33NoneAndAll() {
        Check.same("Promise 33: no files", new Monobuild().changed(), 0);
        Monobuild x = Repo.withFiles("abcdefghijklmnopqrstuvwx");
        x.mark();
        Check.same("Promise 33: none of 24", x.changed(), 0);
        x.edit(0, 99);
        x.edit(23, 99);
        Check.same("Promise 33: the first and the last of 24", x.changed(), 1 << 23 | 1);
        for (int file = 0; file < 24; file++) {
            x.delete(file);
        }
        Check.same("Promise 33: all of 24", x.changed(), ALL);
        x.mark();
        Check.same("Promise 33: none of 24 that are deleted", x.changed(), 0);
    }

    private static void promise33ThereNowAndNotThen() {
        Monobuild x = Repo.withFiles("a");
        x.mark();
        Repo.file(x, "b", 0);
        Check.same("Promise 33: a new file with content 0", x.changed(), 2);
        x.delete(0);
        x.mark();
        Repo.file(x, "a", 10);
        Check.same("Promise 33: a file that was deleted then, with its last content", x.changed(), 1);
    }

    private static void promise33ThereThenAndNotNow() {
        Monobuild x = Repo.withFiles("a");
        x.edit(0, 0);
        x.mark();
        x.delete(0);
        Check.same("Promise 33: a deleted file, content 0", x.changed(), 1);
        Repo.file(x, "a", 0);
        Check.same("Promise 33: it is there again as it was", x.changed(), 0);
    }

    private static void promise33AnotherContent() {
        Monobuild x = Repo.withFiles("a");
        x.mark();
        x.edit(0, 10);
        Check.same("Promise 33: an edit to the same content", x.changed(), 0);
        x.edit(0, 0);
        Check.same("Promise 33: content 0", x.changed(), 1);
        x.edit(0, 9999);
        Check.same("Promise 33: content 9999", x.changed(), 1);
        x.edit(0, 10);
        Check.same("Promise 33: the content of then", x.changed(), 0);
        x.delete(0);
        Repo.file(x, "a", 11);
        Check.same("Promise 33: deleted, and there again with another content", x.changed(), 1);
    }

    private static void promise33NeitherThenNorNow() {
        Monobuild x = Repo.withFiles("a");
        x.delete(0);
        Check.same("Promise 33: added and deleted ahead of the first mark", x.changed(), 0);
        x.mark();
        Repo.file(x, "a", 50);
        x.delete(0);
        Check.same("Promise 33: there again and deleted since", x.changed(), 0);
        Repo.file(x, "b", 1);
        x.delete(1);
        Check.same("Promise 33: added and deleted since", x.changed(), 0);
    }

    private static void promise34NoneAndAll() {
        Check.same("Promise 34: no files", new Monobuild().reviewers(), 0);
        Monobuild x = Repo.withFiles("abcdefgh");
        for (int owner = 0; owner < 8; owner++) {
            Repo.rule(x, "abcdefgh".substring(owner, owner + 1), owner);
        }
        Check.same("Promise 34: all eight owners", x.reviewers(), 255);
        x.mark();
        Check.same("Promise 34: nothing changed", x.reviewers(), 0);
        for (int owner = 0; owner < 8; owner++) {
            x.edit(owner, 99);
            Check.same("Promise 34: the owners up to " + owner, x.reviewers(), (2 << owner) - 1);
        }
        Repo.file(x, "z", 1);
        Check.same("Promise 34: a file without an owner", x.reviewers(), 255);
        Monobuild y = Repo.withFiles("a");
        Check.same("Promise 34: no owner at all", y.reviewers(), 0);
    }

    private static void promise34LatestRule() {
        Monobuild x = Repo.withFiles("abcdefghijklmnopqrstuvwx");
        Repo.rule(x, "?", 0);
        Repo.rule(x, "?", 5);
        Check.same("Promise 34: the owner of the latest rule alone", x.reviewers(), 1 << 5);
        x.mark();
        Repo.rule(x, "x", 7);
        x.edit(23, 0);
        Check.same("Promise 34: the owner of the last of 24 files", x.reviewers(), 1 << 7);
    }

    private static void promise34DeletedFiles() {
        Check.same("Promise 34: of a deleted and an edited file", Repo.busy().reviewers(), 1 << 2 | 1 << 7);
        Check.same("Promise 34: of a deleted file", Repo.full().reviewers(), 1 << 3);
        Monobuild x = Repo.withFiles("a");
        Repo.rule(x, "a", 4);
        x.delete(0);
        Check.same("Promise 34: not of one that was deleted ahead of the first mark", x.reviewers(), 0);
    }
}
