/** Promises 30 to 34: owners. */
public final class OwnersTest {
    private OwnersTest() {
    }

    public static void main(String[] args) {
        promise30AddRule();
        promise31OwnerOf();
        promise32Mark();
        promise33Changed();
        promise34Reviewers();
        Check.finish("OwnersTest");
    }

    private static void promise30AddRule() {
        Monobuild x = new Monobuild();
        Check.call("no glob", () -> x.addRule(0), Repo.ARGUMENT);
        Check.call("no glob, no owner", () -> x.addRule(8), Repo.INDEX);
        Repo.text(x, "*");
        Check.call("owner 8", () -> x.addRule(8), Repo.INDEX);
        Check.call("owner -1", () -> x.addRule(-1), Repo.INDEX);
        for (int i = 1; i <= 12; i++) {
            Check.same("rule " + i, x.addRule(i % 8), i);
        }
        Check.call("a 13th rule", () -> x.addRule(0), Repo.STATE);
        Check.call("a 13th rule, no owner", () -> x.addRule(9), Repo.INDEX);
        Repo.text(x, "**a");
        Check.call("a 13th rule, no glob", () -> x.addRule(0), Repo.ARGUMENT);
        Repo.file(x, "a", 0);
        Check.same("the 12th rule", x.ownerOf(0), 4);
    }

    private static void promise31OwnerOf() {
        Monobuild x = Repo.withFiles("ab");
        Check.same("no rule", x.ownerOf(0), Monobuild.NONE);
        Repo.rule(x, "?", 7);
        Check.same("owner 7 of a", x.ownerOf(0), 7);
        Repo.rule(x, "a", 0);
        Check.same("owner 0 of a", x.ownerOf(0), 0);
        Check.same("owner 7 of b", x.ownerOf(1), 7);
        Repo.rule(x, "c/**", 3);
        Check.same("still owner 0 of a", x.ownerOf(0), 0);
        Repo.file(x, "c/d", 1);
        Check.same("owner of a later file", x.ownerOf(2), 3);
        x.delete(2);
        Check.same("owner of a deleted file", x.ownerOf(2), 3);
        Repo.rule(x, "**", 5);
        Check.same("the latest rule, also for a deleted file", x.ownerOf(2), 5);
        Check.same("and for a", x.ownerOf(0), 5);
        for (int file : new int[] {-1, 3, 24, 32, Integer.MAX_VALUE}) {
            Check.call("ownerOf(" + file + ")", () -> x.ownerOf(file), Repo.INDEX);
        }
        Check.same("a rule without files", Repo.rule(x, "e", 1), 5);
        Repo.file(x, "f/e", 1);
        Check.same("no match of e", x.ownerOf(3), 5);
    }

    private static void promise32Mark() {
        Monobuild x = Repo.withFiles("abc");
        Check.same("mark three", x.mark(), 3);
        Check.same("nothing changed", x.changed(), 0);
        x.delete(1);
        Check.same("mark two", x.mark(), 2);
        Check.same("nothing changed again", x.changed(), 0);
        x.edit(0, 1);
        Check.same("an edit", x.changed(), 1);
        Check.same("mark the edit", x.mark(), 2);
        Check.same("nothing changed at last", x.changed(), 0);
        x.delete(0);
        x.delete(2);
        Check.same("mark none", x.mark(), 0);
        Check.same("none changed", x.changed(), 0);
    }

    private static void promise33Changed() {
        Monobuild x = Repo.withFiles("ab");
        Check.same("all, ahead of the first mark", x.changed(), 3);
        x.delete(1);
        Check.same("not the deleted one", x.changed(), 1);
        Repo.file(x, "b", 11);
        x.mark();
        x.edit(0, 99);
        Check.same("another content", x.changed(), 1);
        x.edit(0, 10);
        Check.same("the old content again", x.changed(), 0);
        x.delete(0);
        Check.same("no more there", x.changed(), 1);
        Repo.file(x, "a", 10);
        Check.same("back as it was", x.changed(), 0);
        x.delete(0);
        Repo.file(x, "a", 12);
        Check.same("back with another content", x.changed(), 1);
        Repo.file(x, "c", 0);
        Check.same("a new one with content 0", x.changed(), 5);
        x.delete(2);
        x.mark();
        Repo.file(x, "c", 0);
        Check.same("there now and not then, with the content from before", x.changed(), 4);
        x.delete(1);
        x.delete(2);
        Check.same("there then and not now", x.changed(), 2);
        Check.same("changed() does not mark", x.changed(), 2);
    }

    private static void promise34Reviewers() {
        Monobuild x = Repo.withFiles("abcd");
        Repo.rule(x, "a", 0);
        Repo.rule(x, "b", 7);
        Repo.rule(x, "c", 7);
        Check.same("ahead of the first mark", x.reviewers(), 0x81);
        x.mark();
        Check.same("none", x.reviewers(), 0);
        x.edit(3, 1);
        Check.same("a file without an owner", x.reviewers(), 0);
        x.edit(2, 1);
        Check.same("owner 7", x.reviewers(), 0x80);
        x.delete(0);
        Check.same("a deleted file's owner too", x.reviewers(), 0x81);
        Repo.rule(x, "*", 4);
        Check.same("the latest rule", x.reviewers(), 0x10);
    }
}
