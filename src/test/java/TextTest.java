/** Promises 1 to 5: a new object, and the text. */
public final class TextTest {
    private TextTest() {
    }

    public static void main(String[] args) {
        promise01NewObject();
        promise02Type();
        promise03ClearText();
        promise04IsPath();
        promise05IsGlob();
        Check.finish("TextTest");
    }

    private static void promise01NewObject() {
        Monobuild x = new Monobuild();
        Check.same("new files", x.files(), 0);
        Check.same("new targets", x.targets(), 0);
        Check.same("new keys", x.keys(), 0);
        Check.same("new needed", x.needed(), 0);
        Check.same("new changed", x.changed(), 0);
        Check.same("new reviewers", x.reviewers(), 0);
        Check.same("new findFile", x.findFile(), Monobuild.NONE);
        Check.same("new runAll", x.runAll(), 0);
        Check.same("new longestShard", x.longestShard(3), 0);
        Check.same("new mark", x.mark(), 0);
        Check.call("new orderAt", () -> x.orderAt(0), Repo.INDEX);
        Check.call("new matches", () -> x.matches(0), Repo.INDEX);
        Check.call("new keyOf", () -> x.keyOf(0), Repo.INDEX);
        Check.same("new text", x.clearText(), 0);
        Repo.text(x, "a*");
        Check.same("the first rule of a new object", x.addRule(1), 1);
        Repo.text(x, "ab");
        x.addFile(1);
        Monobuild y = new Monobuild();
        Check.same("another object's text", y.clearText(), 0);
        Check.same("another object's files", y.files(), 0);
    }

    private static void promise02Type() {
        Monobuild x = new Monobuild();
        int length = 0;
        for (char c : "az/*?m".toCharArray()) {
            length++;
            Check.same("type " + c, x.type(c), length);
        }
        char[] others = {'a' - 1, 'z' + 1, 'A', 'Z', '0', ' ', '.', '-', '\\', '\n', '@', '+', '>',
            0, 127, 128, 255, 256 + 'a', 233, '\uffff'};
        for (char c : others) {
            Check.call("type " + (int) c, () -> x.type(c), Repo.ARGUMENT);
        }
        Check.same("no text from a wrong character", x.clearText(), 6);
        for (int i = 1; i <= 24; i++) {
            Check.same("type the letter " + i, x.type((char) ('a' + i)), i);
        }
        Check.call("type the 25th letter", () -> x.type('a'), Repo.STATE);
        Check.call("type a wrong 25th character", () -> x.type('A'), Repo.ARGUMENT);
        Check.same("24 letters stay", x.clearText(), 24);
        for (int c = 0; c < 65536; c++) {
            boolean good = c >= 'a' && c <= 'z' || c == '/' || c == '*' || c == '?';
            char sign = (char) c;
            x.clearText();
            if (!Check.outcome(() -> x.type(sign)).equals(good ? "1" : Repo.ARGUMENT)) {
                Check.same("type(" + c + ") is right", false, true);
            }
        }
    }

    private static void promise03ClearText() {
        Monobuild x = new Monobuild();
        Check.same("clear a new text", x.clearText(), 0);
        Repo.text(x, "a/b");
        Check.same("clear three characters", x.clearText(), 3);
        Check.same("clear it again", x.clearText(), 0);
        Check.same("type behind clearing", x.type('q'), 1);
        x.clearText();
        Repo.text(x, "xy");
        x.addFile(1);
        x.addTarget(1);
        x.addGlob(0);
        x.addRule(0);
        x.isPath();
        x.isGlob();
        x.matches(0);
        x.findFile();
        x.edit(0, 2);
        x.delete(0);
        x.runAll();
        x.mark();
        Check.same("no other call changes the text", x.clearText(), 2);
        Repo.text(x, "x");
        Check.same("nothing of the old text is left", x.findFile(), Monobuild.NONE);
    }

    private static void isPath(String text, boolean due) {
        Check.same("isPath of " + text, Repo.text(new Monobuild(), text).isPath(), due);
    }

    private static void promise04IsPath() {
        for (String path : new String[] {"a", "abc", "a/b", "a/b/c", "aa/bb/cc/dd",
            "abcdefghijklmnopqrstuvwx", "a/b/c/d/e/f/g/h/i/j/k/lm"}) {
            isPath(path, true);
        }
        for (String text : new String[] {"", "/", "//", "/a", "a/", "a//b", "a/b/", "//a", "a//",
            "*", "?", "**", "a*", "*a", "a?", "?/a", "a/*", "a/**/b", "a/b/c/d/e/f/g/h/i/j/k/l/",
            "abcdefghijklmnopqrstuvw*", "abcdefghijklmnopqrstuvw?"}) {
            isPath(text, false);
        }
        Monobuild x = Repo.text(new Monobuild(), "a");
        x.clearText();
        Check.same("isPath of a cleared text", x.isPath(), false);
    }

    private static void isGlob(String text, boolean due) {
        Check.same("isGlob of " + text, Repo.text(new Monobuild(), text).isGlob(), due);
    }

    private static void promise05IsGlob() {
        for (String glob : new String[] {"a", "a/b", "*", "?", "**", "a*", "*a", "a*b*c", "*?*", "??",
            "*/*", "**/a", "a/**", "a/**/b", "**/**", "**/*", "*/**", "**/?*", "a*/**/*b",
            "*a*/*", "*b/*", "**/**/**/**/**/**/**/ab", "a*a*a*a*a*a*a*a*a*a*a*a*"}) {
            isGlob(glob, true);
        }
        for (String text : new String[] {"", "/", "//", "/a", "a/", "a//b", "*/", "/*", "**/", "/**",
            "***", "****", "a**", "**a", "a**b", "?**", "**?", "a/***", "***/a", "a/b**/c", "a/**b/c",
            "**/a**", "**//a", "abcdefghijklmnopqrstuv**", "a/**/b**", "a**/**"}) {
            isGlob(text, false);
        }
        Monobuild x = Repo.text(new Monobuild(), "**");
        x.type('*');
        Check.same("isGlob after one more star", x.isGlob(), false);
        Repo.text(x, "*");
        Check.same("isGlob behind the text's end", x.isGlob(), true);
    }
}
