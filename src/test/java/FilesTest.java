/** Promises 6 to 11: files. */
public final class FilesTest {
    private FilesTest() {
    }

    public static void main(String[] args) {
        promise06AddFile();
        promise06ManyFiles();
        promise07FindFile();
        promise08Edit();
        promise09Delete();
        promise10Files();
        promise11Matches();
        promise11Throws();
        Check.finish("FilesTest");
    }

    private static void promise06AddFile() {
        Monobuild x = new Monobuild();
        Check.call("addFile without a text", () -> x.addFile(0), Repo.ARGUMENT);
        Repo.text(x, "a");
        Check.call("addFile(-1)", () -> x.addFile(-1), Repo.ARGUMENT);
        Check.call("addFile(10000)", () -> x.addFile(10000), Repo.ARGUMENT);
        Check.same("nothing added", x.files(), 0);
        Check.same("addFile(0)", x.addFile(0), 0);
        Check.call("addFile again", () -> x.addFile(0), Repo.STATE);
        Check.call("addFile again, content wrong", () -> x.addFile(10000), Repo.ARGUMENT);
        Repo.text(x, "ab");
        Check.same("addFile(9999)", x.addFile(9999), 1);
        Check.same("content 9999", x.edit(1, 4), 9999);
        Check.same("content 0", x.edit(0, 4), 0);
        Repo.text(x, "a*");
        Check.call("addFile of a glob", () -> x.addFile(1), Repo.ARGUMENT);
        Repo.text(x, "a//b");
        Check.call("addFile of an empty segment", () -> x.addFile(1), Repo.ARGUMENT);
        x.delete(0);
        Repo.text(x, "a");
        Check.same("a deleted file is there again", x.addFile(77), 0);
        Check.same("there", x.files(), 3);
        Check.same("with the new content", x.edit(0, 1), 77);
        Check.same("next number", Repo.file(x, "a/b", 5), 2);
        Check.call("it is there", () -> x.addFile(5), Repo.STATE);
        Check.same("paths differ by '/'", Repo.file(x, "b", 5), 3);
    }

    private static void promise06ManyFiles() {
        Monobuild x = new Monobuild();
        for (int i = 0; i < 24; i++) {
            Check.same("file " + i, Repo.file(x, "f/" + (char) ('a' + i), i), i);
        }
        Check.same("24 files", x.files(), (1 << 24) - 1);
        Repo.text(x, "new");
        Check.call("a 25th file", () -> x.addFile(1), Repo.STATE);
        Check.call("a 25th file, content wrong", () -> x.addFile(-1), Repo.ARGUMENT);
        x.delete(5);
        Check.call("deleted ones count", () -> x.addFile(1), Repo.STATE);
        Check.same("findFile of the refused one", x.findFile(), -1);
        Check.same("bring one back among 24", Repo.file(x, "f/f", 3), 5);
        Check.same("all there", x.files(), (1 << 24) - 1);
        Check.call("it is there, among 24", () -> x.addFile(1), Repo.STATE);
    }

    private static void promise07FindFile() {
        Monobuild x = Repo.withFiles("abc");
        Check.same("find b", Repo.text(x, "b").findFile(), 1);
        x.delete(1);
        Check.same("find b deleted", x.findFile(), 1);
        Check.same("find d", Repo.text(x, "d").findFile(), Monobuild.NONE);
        Check.same("find ab", Repo.text(x, "ab").findFile(), -1);
        Check.same("find a glob", Repo.text(x, "?").findFile(), -1);
        Check.same("find nothing", Repo.text(x, "").findFile(), -1);
        Repo.file(x, "abcdefghijklmnopqrstuvwx", 1);
        Check.same("find a long one", x.findFile(), 3);
        Check.same("find its like", Repo.text(x, "abcdefghijklmnopqrstuvwy").findFile(), -1);
        Check.same("find its start", Repo.text(x, "abcdefghijklmnopqrstuvw").findFile(), -1);
    }

    private static void promise08Edit() {
        Monobuild x = Repo.withFiles("ab");
        Check.same("edit a", x.edit(0, 9999), 10);
        Check.same("edit a again", x.edit(0, 0), 9999);
        Check.same("edit a a third time", x.edit(0, 0), 0);
        Check.same("b is as before", x.edit(1, 3), 11);
        Check.call("edit(0, -1)", () -> x.edit(0, -1), Repo.ARGUMENT);
        Check.call("edit(0, 10000)", () -> x.edit(0, 10000), Repo.ARGUMENT);
        Check.call("edit(2, 1)", () -> x.edit(2, 1), Repo.INDEX);
        Check.call("edit(-1, 1)", () -> x.edit(-1, 1), Repo.INDEX);
        Check.call("edit(32, 1)", () -> x.edit(32, 1), Repo.INDEX);
        Check.call("edit(2, -1)", () -> x.edit(2, -1), Repo.INDEX);
        x.delete(1);
        Check.call("edit a deleted file", () -> x.edit(1, 1), Repo.INDEX);
        Check.call("edit a deleted file, content wrong", () -> x.edit(1, 10000), Repo.INDEX);
        Check.same("refused edits change nothing", x.edit(0, 1), 0);
        Check.same("editing brings nothing back", x.files(), 1);
    }

    private static void promise09Delete() {
        Monobuild x = Repo.withFiles("abc");
        Check.same("delete b", x.delete(1), 11);
        Check.same("files then", x.files(), 5);
        Check.call("delete b again", () -> x.delete(1), Repo.INDEX);
        Check.call("delete(3)", () -> x.delete(3), Repo.INDEX);
        Check.call("delete(-1)", () -> x.delete(-1), Repo.INDEX);
        Check.call("delete(MIN)", () -> x.delete(Integer.MIN_VALUE), Repo.INDEX);
        Check.same("files at last", x.files(), 5);
        x.edit(2, 40);
        Check.same("delete c", x.delete(2), 40);
        Check.same("delete a", x.delete(0), 10);
        Check.same("no files", x.files(), 0);
    }

    private static void promise10Files() {
        Monobuild x = Repo.withFiles("abcd");
        Check.same("four files", x.files(), 15);
        x.delete(0);
        x.delete(2);
        Check.same("two files", x.files(), 10);
        Repo.file(x, "a", 1);
        Check.same("three files", x.files(), 11);
    }

    private static void matches(String glob, String path, boolean due) {
        Monobuild x = new Monobuild();
        Repo.file(x, path, 1);
        Check.same(glob + " matches " + path, Repo.text(x, glob).matches(0), due);
    }

    private static void all(String glob, boolean due, String... paths) {
        for (String path : paths) {
            matches(glob, path, due);
        }
    }

    private static void promise11Matches() {
        all("a", true, "a");
        all("a", false, "b", "aa", "a/a", "ab", "ba");
        all("a/b", true, "a/b");
        all("a/b", false, "a", "b", "ab", "a/b/c", "a/bc", "c/a/b", "aab");
        all("?", true, "a", "z");
        all("?", false, "ab", "a/b");
        all("a?b", true, "acb", "aab");
        all("a?b", false, "ab", "a/b", "accb");
        all("??/?", true, "ab/c");
        all("??/?", false, "a/b/c", "abc", "a/bc", "abc/d");
        all("*", true, "a", "abc", "abcdefghijklmnopqrstuvwx");
        all("*", false, "a/b", "abc/d");
        all("a*", true, "a", "ab", "abc");
        all("a*", false, "ba", "a/b", "b");
        all("*a", true, "a", "ba", "aaa");
        all("*a", false, "ab", "b/a");
        all("a*b", true, "ab", "acb", "abb", "abab");
        all("a*b", false, "a", "b", "a/b", "abc", "ac/b");
        all("*a*", true, "a", "bab", "ba", "ab");
        all("*a*", false, "b", "b/a", "bbbb");
        all("a*b*c", true, "abc", "aabbcc", "abcbc", "axbyc");
        all("a*b*c", false, "acb", "abca", "ac");
        all("*?", true, "a", "ab", "abc");
        all("?*?", true, "ab", "abc");
        all("?*?", false, "a", "a/b");
        all("*/*", true, "a/b", "ab/cd");
        all("*/*", false, "a", "a/b/c");
        all("a/*/c", true, "a/b/c", "a/bb/c");
        all("a/*/c", false, "a/c", "a/b/b/c", "a/b/d");
        all("**", true, "a", "a/b", "ab/cd/ef", "a/b/c/d/e/f/g/h/i/j/k/lm");
        all("**/a", true, "a", "b/a", "a/a", "b/c/a", "aa/ba/a");
        all("**/a", false, "ba", "a/b", "b/ba", "a/ba");
        all("a/**", true, "a", "a/b", "a/b/c", "a/a");
        all("a/**", false, "b", "ab", "b/a", "ab/c", "aa/a");
        all("a/**/b", true, "a/b", "a/c/b", "a/c/d/b", "a/b/b", "a/b/a/b");
        all("a/**/b", false, "a", "b", "ab", "a/b/c", "c/a/b", "a/cb", "ac/b", "a/c/bb");
        all("**/q/**", true, "q", "p/q", "q/r", "p/q/r", "q/q", "a/b/q/c/d");
        all("**/q/**", false, "p", "p/r", "pq/r", "p/qr", "qq");
        all("**/**", true, "a", "a/b", "a/b/c");
        all("**/*", true, "a", "a/b", "a/b/c");
        all("*/**", true, "a", "a/b", "a/b/c");
        all("*/**/*", true, "a/b", "a/b/c");
        all("*/**/*", false, "a", "abc");
        all("**/a*/**/?b", true, "a/ab", "a/x/ab", "x/ax/cb", "ab/bb/ab");
        all("**/a*/**/?b", false, "ab", "x/ab", "a/b", "a/x/b", "a/x/ab/c");
        all("**/a/b", true, "a/b", "a/a/b", "a/b/a/b");
        all("**/a/b", false, "a/b/c", "a/c/b", "a/b/b");
        all("a*a*a*a*a*a*a*a*a*a*a*b", false, "aaaaaaaaaaaaaaaaaaaaaaaa");
        all("a*a*a*a*a*a*a*a*a*a*a*b", true, "aaaaaaaaaaaaaaaaaaaaaaab");
        all("**/**/**/**/**/**/**/b", false, "a/a/a/a/a/a/a/a/a/a/a/a");
        all("**/**/**/**/**/**/**/b", true, "a/a/a/a/a/a/a/a/a/a/a/b");
        all("?/?/?/?/?/?/?/?/?/?/?/??", true, "a/b/c/d/e/f/g/h/i/j/k/lm");
        all("?/?/?/?/?/?/?/?/?/?/?/?", false, "a/b/c/d/e/f/g/h/i/j/k/lm");
    }

    private static void promise11Throws() {
        Monobuild x = Repo.withFiles("ab");
        Repo.text(x, "?");
        Check.call("matches(1)", () -> x.matches(1), true);
        Check.call("matches(2)", () -> x.matches(2), Repo.INDEX);
        Check.call("matches(-1)", () -> x.matches(-1), Repo.INDEX);
        Check.call("matches(24)", () -> x.matches(24), Repo.INDEX);
        Check.call("matches(MAX)", () -> x.matches(Integer.MAX_VALUE), Repo.INDEX);
        x.delete(1);
        Check.call("matches a deleted file", () -> x.matches(1), true);
        Repo.text(x, "***");
        Check.call("matches by no glob", () -> x.matches(1), Repo.STATE);
        Check.call("matches no file by no glob", () -> x.matches(2), Repo.INDEX);
        x.clearText();
        Check.call("matches by no text", () -> x.matches(0), Repo.STATE);
    }
}
