import java.util.function.Consumer;

/** The boundary cases of the text, of paths and of globs: "Terms" and promises 1 to 5, a sentence each. */
public final class TextEdgesTest {
    private static final String LONGEST = "abcdefghijklmnopqrstuvwx";

    private TextEdgesTest() {
    }

    public static void main(String[] args) {
        promise01WithoutFiles();
        promise01WithoutTargets();
        promise01WithoutRules();
        promise01TextIsEmpty();
        promise01NothingIsMarked();
        promise02FirstAndLastLetter();
        promise02ReturnsOneTo24();
        promise02AnotherCharacter();
        promise02TextHas24Characters();
        promise02AnotherCharacterGoesFirst();
        promise03EmptyText();
        promise03FullText();
        promise03NoOtherCallChangesTheText();
        promise04OneSegment();
        promise04EmptySegments();
        promise04StarsAndQuestionMarks();
        promise05EmptySegments();
        promise05TwoStars();
        promise05MoreStars();
        Check.finish("TextEdgesTest");
    }

    private static void promise01WithoutFiles() {
        Monobuild x = Repo.text(new Monobuild(), "a");
        Check.same("Promise 1: no files", x.files(), 0);
        Check.same("Promise 1: findFile without files", x.findFile(), Monobuild.NONE);
        for (int file : Repo.outside(0)) {
            Check.call("Promise 1: edit " + file, () -> x.edit(file, 1), Repo.INDEX);
            Check.call("Promise 1: delete " + file, () -> x.delete(file), Repo.INDEX);
            Check.call("Promise 1: matches " + file, () -> x.matches(file), Repo.INDEX);
            Check.call("Promise 1: affectedBy " + file, () -> x.affectedBy(file), Repo.INDEX);
            Check.call("Promise 1: affectedByGoingDown " + file, () -> x.affectedByGoingDown(file), Repo.INDEX);
            Check.call("Promise 1: ownerOf " + file, () -> x.ownerOf(file), Repo.INDEX);
        }
        Check.same("Promise 1: the first file has the number 0", x.addFile(1), 0);
    }

    private static void promise01WithoutTargets() {
        Monobuild x = Repo.text(new Monobuild(), "a");
        Check.same("Promise 1: no targets", x.targets(), 0);
        Check.same("Promise 1: no target needs to run", x.needed(), 0);
        Check.same("Promise 1: no keys", x.keys(), 0);
        Check.same("Promise 1: none runs", x.runAll(), 0);
        Check.same("Promise 1: nothing on a shard", x.longestShard(1), 0);
        Check.same("Promise 1: one shard is enough", x.shardsFor(1), 1);
        for (int target : Repo.outside(0)) {
            Check.call("Promise 1: addGlob " + target, () -> x.addGlob(target), Repo.INDEX);
            Check.call("Promise 1: depend " + target, () -> x.depend(target, target), Repo.INDEX);
            Check.call("Promise 1: inputs " + target, () -> x.inputs(target), Repo.INDEX);
            Check.call("Promise 1: above " + target, () -> x.above(target), Repo.INDEX);
            Check.call("Promise 1: orderAt " + target, () -> x.orderAt(target), Repo.INDEX);
            Check.call("Promise 1: keyOf " + target, () -> x.keyOf(target), Repo.INDEX);
            Check.call("Promise 1: whyRun " + target, () -> x.whyRun(target), Repo.INDEX);
            Check.call("Promise 1: run " + target, () -> x.run(target), Repo.INDEX);
            Check.call("Promise 1: shardOf " + target, () -> x.shardOf(target, 1), Repo.INDEX);
        }
        Check.same("Promise 1: the first target has the number 0", x.addTarget(1), 0);
    }

    private static void promise01WithoutRules() {
        Monobuild x = Repo.withFiles("a");
        Check.same("Promise 1: no rule, no owner", x.ownerOf(0), Monobuild.NONE);
        Check.same("Promise 1: no rule, no reviewers", x.reviewers(), 0);
        Check.same("Promise 1: the first rule", x.addRule(0), 1);
    }

    private static void promise01TextIsEmpty() {
        Check.same("Promise 1: the text is empty", new Monobuild().clearText(), 0);
        Check.same("Promise 1: the empty text is no path", new Monobuild().isPath(), false);
        Check.same("Promise 1: the empty text is no glob", new Monobuild().isGlob(), false);
        Check.same("Promise 1: the first character", new Monobuild().type('a'), 1);
    }

    private static void promise01NothingIsMarked() {
        Monobuild x = new Monobuild();
        Check.same("Promise 1: nothing changed", x.changed(), 0);
        Repo.file(x, "a", 0);
        Check.same("Promise 1: nothing is marked", x.changed(), 1);
    }

    private static void promise02FirstAndLastLetter() {
        for (char c : new char[] {'a', 'z', '/', '*', '?'}) {
            Check.same("Promise 2: type " + c, new Monobuild().type(c), 1);
        }
    }

    private static void promise02ReturnsOneTo24() {
        for (char c : new char[] {'a', 'z', '/', '*', '?'}) {
            Monobuild x = new Monobuild();
            for (int length = 1; length <= 24; length++) {
                Check.same("Promise 2: type " + c + ", the character " + length, x.type(c), length);
            }
        }
    }

    private static void promise02AnotherCharacter() {
        char[] neighbours = {'a' - 1, 'z' + 1, '/' - 1, '/' + 1, '*' - 1, '*' + 1, '?' - 1, '?' + 1};
        char[] others = {0, ' ', 'A', 'Z', '0', '\\', '-', 127, 128, 225, 255, 256 + 'a', 256 + '/', 65535};
        for (char c : (String.valueOf(neighbours) + String.valueOf(others)).toCharArray()) {
            Check.call("Promise 2: type " + (int) c, () -> new Monobuild().type(c), Repo.ARGUMENT);
        }
        Refusal.check("Promise 2: another character in an empty text", Repo.ARGUMENT, Monobuild::new,
                x -> x.type('A'));
        Refusal.check("Promise 2: another character behind a text", Repo.ARGUMENT, Repo::busy,
                x -> x.type((char) ('z' + 1)));
    }

    /** A repository whose text has 24 characters and is the path of a file. */
    private static Monobuild withLongestPath() {
        Monobuild x = Repo.busy();
        Repo.file(x, LONGEST, 5);
        return x;
    }

    private static void promise02TextHas24Characters() {
        for (char c : new char[] {'a', 'z', '/', '*', '?'}) {
            Refusal.check("Promise 2: a 25th character " + c, Repo.STATE, TextEdgesTest::withLongestPath,
                    x -> x.type(c));
        }
        Monobuild x = withLongestPath();
        Check.call("Promise 2: a 25th character", () -> x.type('a'), Repo.STATE);
        Check.same("Promise 2: the text stays", x.findFile(), 4);
        Check.same("Promise 2: 24 characters stay", x.clearText(), 24);
    }

    private static void promise02AnotherCharacterGoesFirst() {
        Refusal.check("Promise 2: another character, and 24 are there", Repo.ARGUMENT,
                TextEdgesTest::withLongestPath, x -> x.type('{'));
    }

    private static void promise03EmptyText() {
        Monobuild x = new Monobuild();
        Check.same("Promise 3: an empty text", x.clearText(), 0);
        Check.same("Promise 3: an empty text once more", x.clearText(), 0);
        Check.same("Promise 3: one character", Repo.text(x, "a").clearText(), 1);
        Check.same("Promise 3: empty behind it", x.clearText(), 0);
    }

    private static void promise03FullText() {
        Monobuild x = withLongestPath();
        Check.same("Promise 3: a full text", x.clearText(), 24);
        Check.same("Promise 3: the empty text is no path", x.isPath(), false);
        Check.same("Promise 3: the empty text is no glob", x.isGlob(), false);
        Check.same("Promise 3: typed anew", x.type('a'), 1);
        Check.same("Promise 3: nothing is left behind it", x.findFile(), 0);
    }

    private static void keepsTheText(String call, Consumer<Monobuild> act) {
        Monobuild x = Repo.busy();
        Repo.file(x, "b/d", 1);
        act.accept(x);
        Check.same("Promise 3: the text after " + call, x.findFile(), 4);
        Check.same("Promise 3: the text's length after " + call, x.clearText(), 3);
    }

    private static void promise03NoOtherCallChangesTheText() {
        keepsTheText("isPath", x -> x.isPath());
        keepsTheText("isGlob", x -> x.isGlob());
        keepsTheText("a refused type", x -> Check.outcome(() -> x.type('A')));
        keepsTheText("addFile", x -> { });
        keepsTheText("addFile of a deleted file", x -> {
            x.delete(4);
            x.addFile(2);
        });
        keepsTheText("a refused addFile", x -> Check.outcome(() -> x.addFile(2)));
        keepsTheText("findFile", x -> x.findFile());
        keepsTheText("edit", x -> x.edit(4, 7));
        keepsTheText("delete", x -> x.delete(0));
        keepsTheText("files", x -> x.files());
        keepsTheText("matches", x -> x.matches(4));
        keepsTheText("matches of another file", x -> x.matches(0));
        keepsTheText("addTarget", x -> x.addTarget(1));
        keepsTheText("addGlob", x -> x.addGlob(0));
        keepsTheText("a refused addGlob", x -> Check.outcome(() -> x.addGlob(3)));
        keepsTheText("depend", x -> x.depend(3, 0));
        keepsTheText("targets", x -> x.targets());
        keepsTheText("inputs", x -> x.inputs(3));
        keepsTheText("above", x -> x.above(0));
        keepsTheText("orderAt", x -> x.orderAt(0));
        keepsTheText("affectedBy", x -> x.affectedBy(0));
        keepsTheText("affectedByGoingDown", x -> x.affectedByGoingDown(0));
        keepsTheText("keyOf", x -> x.keyOf(0));
        keepsTheText("needed", x -> x.needed());
        keepsTheText("whyRun", x -> x.whyRun(1));
        keepsTheText("run", x -> x.run(1));
        keepsTheText("runAll", x -> x.runAll());
        keepsTheText("keys", x -> x.keys());
        keepsTheText("shardOf", x -> x.shardOf(1, 2));
        keepsTheText("longestShard", x -> x.longestShard(2));
        keepsTheText("shardsFor", x -> x.shardsFor(2));
        keepsTheText("addRule", x -> x.addRule(2));
        keepsTheText("ownerOf", x -> x.ownerOf(0));
        keepsTheText("mark", x -> x.mark());
        keepsTheText("changed", x -> x.changed());
        keepsTheText("reviewers", x -> x.reviewers());
    }

    private static void paths(String why, boolean due, String... texts) {
        for (String text : texts) {
            Check.same("Promise 4: " + why + ": " + text, Repo.text(new Monobuild(), text).isPath(), due);
        }
    }

    private static void globs(String why, boolean due, String... texts) {
        for (String text : texts) {
            Check.same("Promise 5: " + why + ": " + text, Repo.text(new Monobuild(), text).isGlob(), due);
        }
    }

    private static void promise04OneSegment() {
        paths("a text without '/' is one segment", true, "a", "z", "az", LONGEST);
        paths("segments of one letter", true, "a/b", "a/b/c/d/e/f/g/h/i/j/k/l", "a/b/c/d/e/f/g/h/i/j/k/lm");
    }

    private static void promise04EmptySegments() {
        paths("the empty text is one empty segment", false, "");
        paths("an empty segment ahead of the first '/'", false, "/", "/a", "/a/b");
        paths("an empty segment behind the last '/'", false, "a/", "a/b/", "abcdefghijklmnopqrstuvw/");
        paths("an empty segment between two '/'", false, "a//b", "a/b//c", "//", "abcdefghijk//lmnopqrstuv");
    }

    private static void promise04StarsAndQuestionMarks() {
        paths("a '*'", false, "*", "*a", "a*", "a*b", "a/*", "*/a", "**", "a/**", "abcdefghijklmnopqrstuvw*");
        paths("a '?'", false, "?", "?a", "a?", "a?b", "a/?", "?/a", "abcdefghijklmnopqrstuvw?");
    }

    private static void promise05EmptySegments() {
        globs("the empty text is one empty segment", false, "");
        globs("an empty segment ahead of the first '/'", false, "/", "/*", "/**", "/a");
        globs("an empty segment behind the last '/'", false, "*/", "**/", "a/", "?/");
        globs("an empty segment between two '/'", false, "*//*", "**//**", "a//b", "//");
        globs("no empty segment", true, "a", "a/b", "*", "?", "*/*", "?/?", LONGEST);
    }

    private static void promise05TwoStars() {
        globs("two '*' are the whole segment", true, "**", "**/a", "a/**", "a/**/b", "**/**", "a/b/**",
                "**/a/**", "abcdefghijklmnopqrstu/**");
        globs("two '*' behind others", false, "a**", "?**", "a/b**", "a**/b", "**/a**");
        globs("two '*' ahead of others", false, "**a", "**?", "a/**b", "**a/b", "**b/**");
        globs("two '*' between others", false, "a**b", "?**?", "a/b**c/d", "abcdefghijklmnopqrstu**v");
        globs("two '*' at the end of a full text", false, "abcdefghijklmnopqrstuv**");
    }

    private static void promise05MoreStars() {
        globs("three '*'", false, "***", "a/***", "***/a", "a/***/b");
        globs("four '*'", false, "****", "**/****", "************************");
        globs("'*' that do not stand side by side", true, "*a*", "*/*", "*?*", "*/**/*", "*a*a*a*a*a*a*a*a*a*a*a*a");
    }
}
