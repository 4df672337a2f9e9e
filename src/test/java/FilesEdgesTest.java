/** The boundary cases of files: "Terms" and promises 6 to 11, a sentence each. */
public final class FilesEdgesTest {
    private static final int ALL = (1 << 24) - 1;
    private static final String LONGEST = "abcdefghijklmnopqrstuvwx";

    private FilesEdgesTest() {
    }

    public static void main(String[] args) {
        promise06LowestAndHighestContent();
        promise06ContentOutOfRange();
        promise06NoPath();
        promise06FileIsThere();
        promise06NumbersByFirstAdding();
        promise06There24Files();
        promise06DeletedOnesCounted();
        promise06DeletedFileIsThereAgain();
        promise06ArgumentGoesFirst();
        promise07Deleted();
        promise07NeverWasOne();
        promise07RefusedFile();
        promise08LowestAndHighestContent();
        promise08NoSuchFile();
        promise08Deleted();
        promise08ContentOutOfRange();
        promise08IndexGoesFirst();
        promise09NoSuchFile();
        promise09Deleted();
        promise09FirstAndLastFile();
        promise10NoneAndAll();
        promise11DeletedOrNot();
        promise11NoSuchFile();
        promise11NoGlob();
        promise11IndexGoesFirst();
        promise11FromTheFirstToTheLast();
        promise11TwoStars();
        promise11QuestionMark();
        promise11Star();
        promise11LongestTexts();
        Check.finish("FilesEdgesTest");
    }

    private static void promise06LowestAndHighestContent() {
        Monobuild x = new Monobuild();
        Check.same("Promise 6: content 0", Repo.file(x, "a", 0), 0);
        Check.same("Promise 6: content 9999", Repo.file(x, "b", 9999), 1);
        Check.same("Promise 6: content 0 stands", x.delete(0), 0);
        Check.same("Promise 6: content 9999 stands", x.delete(1), 9999);
    }

    private static void promise06ContentOutOfRange() {
        for (int content : new int[] {-1, 10000, 65536, Integer.MAX_VALUE, Integer.MIN_VALUE}) {
            Refusal.check("Promise 6: a new file, content " + content, Repo.ARGUMENT, () -> Repo.busyWith("q/r"),
                    x -> x.addFile(content));
            Refusal.check("Promise 6: a deleted file, content " + content, Repo.ARGUMENT, () -> Repo.busyWith("e"),
                    x -> x.addFile(content));
        }
    }

    private static void promise06NoPath() {
        for (String text : new String[] {"", "/", "/a", "a/", "a//b", "*", "?", "**", "a*", "a/?"}) {
            Refusal.check("Promise 6: the text is no path: " + text, Repo.ARGUMENT, () -> Repo.busyWith(text),
                    x -> x.addFile(1));
        }
    }

    private static void promise06FileIsThere() {
        Refusal.check("Promise 6: the file is there", Repo.STATE, () -> Repo.busyWith("b"), x -> x.addFile(1));
        Refusal.check("Promise 6: the file is there, with this content", Repo.STATE, () -> Repo.busyWith("b"),
                x -> x.addFile(21));
        Refusal.check("Promise 6: the file is there, among 24", Repo.STATE, () -> Repo.fullWith("a"),
                x -> x.addFile(1));
    }

    private static void promise06NumbersByFirstAdding() {
        Monobuild x = Repo.withFiles("cb");
        x.delete(0);
        Check.same("Promise 6: a deleted file keeps its number", Repo.file(x, "a", 1), 2);
        Check.same("Promise 6: it has it when it is there again", Repo.file(x, "c", 1), 0);
        Check.same("Promise 6: the next new one", Repo.file(x, "d", 1), 3);
    }

    private static void promise06There24Files() {
        Monobuild x = Repo.withFiles("abcdefghijklmnopqrstuvw");
        Check.same("Promise 6: the 24th file", Repo.file(x, "x", 1), 23);
        Refusal.check("Promise 6: a 25th file", Repo.STATE, () -> {
            Monobuild y = Repo.withFiles("abcdefghijklmnopqrstuvwx");
            return Repo.text(y, "y");
        }, y -> y.addFile(1));
        Refusal.check("Promise 6: a 25th file among targets, rules and keys", Repo.STATE, () -> Repo.fullWith("y"),
                y -> y.addFile(1));
    }

    private static void promise06DeletedOnesCounted() {
        Refusal.check("Promise 6: 24 files, all deleted, are counted", Repo.STATE, () -> {
            Monobuild x = Repo.withFiles("abcdefghijklmnopqrstuvwx");
            for (int file = 0; file < 24; file++) {
                x.delete(file);
            }
            return Repo.text(x, "y");
        }, x -> x.addFile(1));
    }

    private static void promise06DeletedFileIsThereAgain() {
        Monobuild x = Repo.fullWith("f");
        Check.same("Promise 6: a deleted one of 24 is there again", x.addFile(9), 5);
        Check.same("Promise 6: all 24 are there", x.files(), ALL);
        Check.same("Promise 6: with its new content", x.delete(5), 9);
        Monobuild y = Repo.withFiles("a");
        y.delete(0);
        Check.same("Promise 6: with the content from before too", y.addFile(10), 0);
        Check.same("Promise 6: it is there", y.files(), 1);
    }

    private static void promise06ArgumentGoesFirst() {
        Refusal.check("Promise 6: content out of range, and the file is there", Repo.ARGUMENT,
                () -> Repo.busyWith("b"), x -> x.addFile(10000));
        Refusal.check("Promise 6: content out of range, and 24 files", Repo.ARGUMENT,
                () -> Repo.fullWith("y"), x -> x.addFile(-1));
        Refusal.check("Promise 6: no path, and 24 files", Repo.ARGUMENT,
                () -> Repo.fullWith("y*"), x -> x.addFile(1));
        Refusal.check("Promise 6: no path, and content out of range", Repo.ARGUMENT,
                () -> Repo.busyWith("y*"), x -> x.addFile(-1));
    }

    private static void promise07Deleted() {
        Check.same("Promise 7: a file that is there", Repo.busyWith("c").findFile(), 2);
        Check.same("Promise 7: a deleted file", Repo.busyWith("e").findFile(), 3);
        Check.same("Promise 7: the first of 24", Repo.fullWith("a").findFile(), 0);
        Check.same("Promise 7: the last of 24", Repo.fullWith("x").findFile(), 23);
        Check.same("Promise 7: a deleted one of 24", Repo.fullWith("f").findFile(), 5);
    }

    private static void promise07NeverWasOne() {
        Check.same("Promise 7: NONE", Monobuild.NONE, -1);
        for (String text : new String[] {"", "d", "aa", "a/a", "ab", "a/", "/a", "*", "?", "**", LONGEST}) {
            Check.same("Promise 7: there never was " + text, Repo.busyWith(text).findFile(), Monobuild.NONE);
        }
        Check.same("Promise 7: there never was one among 24", Repo.fullWith("y").findFile(), Monobuild.NONE);
        Monobuild x = Repo.withFiles("a");
        Repo.file(x, LONGEST, 1);
        Check.same("Promise 7: 24 characters", x.findFile(), 1);
        Check.same("Promise 7: the first 23 of them", Repo.text(x, "abcdefghijklmnopqrstuvw").findFile(), -1);
        Check.same("Promise 7: another last one", Repo.text(x, "abcdefghijklmnopqrstuvwz").findFile(), -1);
        Check.same("Promise 7: another first one", Repo.text(x, "zbcdefghijklmnopqrstuvwx").findFile(), -1);
    }

    private static void promise07RefusedFile() {
        Monobuild x = Repo.busyWith("d");
        Check.call("Promise 7: a refused file", () -> x.addFile(10000), Repo.ARGUMENT);
        Check.same("Promise 7: there never was the refused file", x.findFile(), Monobuild.NONE);
        Monobuild y = Repo.fullWith("y");
        Check.call("Promise 7: a refused 25th file", () -> y.addFile(1), Repo.STATE);
        Check.same("Promise 7: there never was a 25th file", y.findFile(), Monobuild.NONE);
    }

    private static void promise08LowestAndHighestContent() {
        Monobuild x = Repo.withFiles("a");
        Check.same("Promise 8: to content 0", x.edit(0, 0), 10);
        Check.same("Promise 8: to content 9999", x.edit(0, 9999), 0);
        Check.same("Promise 8: to the content that it has", x.edit(0, 9999), 9999);
        Check.same("Promise 8: the content before", x.edit(0, 1), 9999);
        Check.same("Promise 8: the first of 24 files", Repo.full().edit(0, 1), 10);
        Check.same("Promise 8: the last of 24 files", Repo.full().edit(23, 1), 33);
    }

    private static void promise08NoSuchFile() {
        Refusal.noFile("Promise 8", (x, file) -> x.edit(file, 1));
    }

    private static void promise08Deleted() {
        Refusal.check("Promise 8: a deleted file", Repo.INDEX, Repo::busy, x -> x.edit(3, 1));
        Refusal.check("Promise 8: a deleted file, its content", Repo.INDEX, Repo::busy, x -> x.edit(3, 13));
        Refusal.check("Promise 8: a deleted one of 24 files", Repo.INDEX, Repo::full, x -> x.edit(5, 1));
        Monobuild x = Repo.busyWith("e");
        x.addFile(6);
        Check.same("Promise 8: a file that is there again", x.edit(3, 1), 6);
    }

    private static void promise08ContentOutOfRange() {
        for (int content : new int[] {-1, 10000, 65536, Integer.MAX_VALUE, Integer.MIN_VALUE}) {
            Refusal.check("Promise 8: content " + content, Repo.ARGUMENT, Repo::busy, x -> x.edit(0, content));
        }
    }

    private static void promise08IndexGoesFirst() {
        for (int content : new int[] {-1, 10000}) {
            Refusal.check("Promise 8: no file -1, content " + content, Repo.INDEX, Repo::busy,
                    x -> x.edit(-1, content));
            Refusal.check("Promise 8: no file 4, content " + content, Repo.INDEX, Repo::busy,
                    x -> x.edit(4, content));
            Refusal.check("Promise 8: a deleted file, content " + content, Repo.INDEX, Repo::busy,
                    x -> x.edit(3, content));
        }
    }

    private static void promise09NoSuchFile() {
        Refusal.noFile("Promise 9", (x, file) -> x.delete(file));
    }

    private static void promise09Deleted() {
        Refusal.check("Promise 9: a deleted file", Repo.INDEX, Repo::busy, x -> x.delete(3));
        Refusal.check("Promise 9: a deleted one of 24 files", Repo.INDEX, Repo::full, x -> x.delete(5));
        Monobuild x = Repo.busyWith("e");
        x.addFile(6);
        Check.same("Promise 9: a file that is there again", x.delete(3), 6);
    }

    private static void promise09FirstAndLastFile() {
        Monobuild x = Repo.full();
        Check.same("Promise 9: the first of 24 files", x.delete(0), 10);
        Check.same("Promise 9: the last of 24 files", x.delete(23), 33);
        Check.same("Promise 9: the others are there", x.files(), ALL & ~(1 | 1 << 5 | 1 << 23));
        Monobuild y = Repo.withFiles("a");
        y.edit(0, 0);
        Check.same("Promise 9: content 0", y.delete(0), 0);
        Check.same("Promise 9: the only file", y.files(), 0);
    }

    private static void promise10NoneAndAll() {
        Check.same("Promise 10: no files", new Monobuild().files(), 0);
        Monobuild x = Repo.withFiles("abcdefghijklmnopqrstuvwx");
        Check.same("Promise 10: 24 files", x.files(), ALL);
        for (int file = 0; file < 24; file++) {
            x.delete(file);
            Check.same("Promise 10: the files behind " + file, x.files(), ALL & -2 << file);
        }
    }

    private static void promise11DeletedOrNot() {
        Check.same("Promise 11: a deleted file", Repo.busyWith("?").matches(3), true);
        Check.same("Promise 11: a deleted file's path", Repo.busyWith("e").matches(3), true);
        Check.same("Promise 11: not a deleted file's path", Repo.busyWith("a").matches(3), false);
        Check.same("Promise 11: the first of 24 files", Repo.fullWith("a").matches(0), true);
        Check.same("Promise 11: the last of 24 files", Repo.fullWith("x").matches(23), true);
        Check.same("Promise 11: not the last of 24 files", Repo.fullWith("a").matches(23), false);
    }

    private static void promise11NoSuchFile() {
        Refusal.noFile("Promise 11", (x, file) -> x.matches(file));
    }

    private static void promise11NoGlob() {
        Refusal.noGlob("Promise 11", Repo.STATE, x -> x.matches(0));
        Refusal.noGlob("Promise 11, of a deleted file", Repo.STATE, x -> x.matches(3));
    }

    private static void promise11IndexGoesFirst() {
        for (int file : new int[] {-1, 4}) {
            Refusal.check("Promise 11: no text, and no file " + file, Repo.INDEX, () -> Repo.busyWith(""),
                    x -> x.matches(file));
            Refusal.check("Promise 11: no glob, and no file " + file, Repo.INDEX, () -> Repo.busyWith("a**"),
                    x -> x.matches(file));
        }
    }

    private static void matching(String why, String glob, String matched, String others) {
        for (String path : matched.split(" ")) {
            matching(why, glob, path, true);
        }
        for (String path : others.split(" ")) {
            matching(why, glob, path, false);
        }
    }

    private static void matching(String why, String glob, String path, boolean due) {
        if (!path.isEmpty()) {
            Monobuild x = new Monobuild();
            Repo.file(x, path, 1);
            boolean got = Repo.text(x, glob).matches(0);
            Check.same("Promise 11: " + why + ": " + glob + " upon " + path, got, due);
        }
    }

    private static void promise11FromTheFirstToTheLast() {
        matching("all segments of the path", "a/b", "a/b", "a b a/b/c c/a/b a/c/b ab aab");
        matching("all letters of a segment", "ab", "ab", "a b abc cab ba a/b");
        matching("a segment upon one", "*", "a abc", "a/b a/b/c");
        matching("segments upon one each", "*/?", "a/b abc/d", "a b/cd a/b/c a/b/cd");
    }

    private static void promise11TwoStars() {
        matching("any number of segments", "**", "a abc a/b ab/cd/ef a/b/c/d/e/f/g/h/i/j/k/l", "");
        matching("none ahead of the first", "**/a", "a b/a b/c/a a/a", "b a/b ba b/ba ab/b");
        matching("none behind the last", "a/**", "a a/b a/b/c a/a", "b b/a ab ab/c b/a/c");
        matching("none between two", "a/**/b", "a/b a/c/b a/c/d/b a/a/b/b", "a b ab a/bc a/b/c ca/b a/c");
        matching("none at all, many times", "**/**/**/a/**/**", "a b/a a/b b/c/d/e/a/f", "b b/c ab/ba");
        matching("one segment is left over", "**/*", "a a/b a/b/c", "");
        matching("two segments are left over", "*/**/*", "a/b a/b/c", "a abc");
        matching("no part of a segment", "**/b/**", "b a/b b/a", "ab ba ab/ba bb/a");
    }

    private static void promise11QuestionMark() {
        matching("some one letter", "?", "a z m", "ab a/b");
        matching("not none", "a?", "aa az", "a a/b abc");
        matching("not none ahead", "?a", "aa za", "a b/a bca");
        matching("not '/'", "a?b", "acb abb", "ab a/b accb");
        matching("as many as there are letters", "???", "abc", "ab abcd a/b a/b/c");
    }

    private static void promise11Star() {
        matching("none behind", "a*", "a ab abc aa", "b ba a/a b/a");
        matching("none ahead", "*a", "a ba cba aa", "b ab a/a a/b");
        matching("none between", "a*b", "ab acb abb abab", "a b ba abc a/b a/c/b");
        matching("none at many places", "*a*b*", "ab cab acb abc cacbc", "a b ba a/b b/a");
        matching("not '/'", "*", "a ab", "a/b ab/c a/b/c");
        matching("one more letter by '?'", "*?", "a ab abc", "a/b");
        matching("the last of several places", "*ab", "ab aab abab", "aba ba abb");
    }

    private static void promise11LongestTexts() {
        matching("24 characters", LONGEST, LONGEST, "abcdefghijklmnopqrstuvw a abcdefghijklmnopqrstuvwy");
        matching("24 '?'", "?".repeat(24), LONGEST, "abcdefghijklmnopqrstuvw abcdefghijklm/opqrstuvwx");
        matching("one '*' for 24 letters", "*", LONGEST, "abcdefghijklm/opqrstuvwx");
        matching("'*' behind 23 letters", "abcdefghijklmnopqrstuvw*", LONGEST, "abcdefghijklmnopqrstuv");
        matching("'*' ahead of 23 letters", "*bcdefghijklmnopqrstuvwx", LONGEST, "cdefghijklmnopqrstuvwx");
        matching("'**' for 12 segments", "**/**", "a/b/c/d/e/f/g/h/i/j/k/lm", "");
        matching("12 segments", "?/?/?/?/?/?/?/?/?/?/?/??", "a/b/c/d/e/f/g/h/i/j/k/lm",
                "a/b/c/d/e/f/g/h/i/j/k/l a/b/c/d/e/f/g/h/i/j/kl b/c/d/e/f/g/h/i/j/k/lm");
        matching("many ways to lay", "*a*a*a*a*a*a*a*a*a*a*a*b", "aaaaaaaaaaaaaaaaaaaaaaab",
                "aaaaaaaaaaaaaaaaaaaaaaaa");
        matching("many ways to lay segments", "**/a/**/a/**/a/**/b", "a/a/a/a/a/a/a/a/a/a/a/b",
                "a/a/a/a/a/a/a/a/a/a/a/a a/a/b");
    }
}
