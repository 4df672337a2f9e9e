import java.util.stream.IntStream;

/** Short ways to put a Monobuild into a state, for the tests. */
final class Repo {
    static final String INDEX = "IndexOutOfBoundsException";
    static final String ARGUMENT = "IllegalArgumentException";
    static final String STATE = "IllegalStateException";

    private Repo() {
    }

    /** Puts a text into the place of the one that stands. */
    static Monobuild text(Monobuild x, String text) {
        x.clearText();
        for (int i = 0; i < text.length(); i++) {
            x.type(text.charAt(i));
        }
        return x;
    }

    static int file(Monobuild x, String path, int content) {
        return text(x, path).addFile(content);
    }

    static int glob(Monobuild x, int target, String glob) {
        return text(x, glob).addGlob(target);
    }

    static int rule(Monobuild x, String glob, int owner) {
        return text(x, glob).addRule(owner);
    }

    /** A repository with files of one letter each, their contents 10, 11, 12 and so on. */
    static Monobuild withFiles(String letters) {
        Monobuild x = new Monobuild();
        for (int i = 0; i < letters.length(); i++) {
            file(x, letters.substring(i, i + 1), 10 + i);
        }
        return x;
    }

    /** A repository with targets of these costs. */
    static Monobuild withTargets(int... costs) {
        Monobuild x = new Monobuild();
        for (int cost : costs) {
            x.addTarget(cost);
        }
        return x;
    }

    /**
     * Four files, one of them deleted; four targets, 3 with four globs, of which 0 and 3 have keys and 1 and
     * 2 need to run; two rules, a mark, and two files that changed since. The text is "a", the path of file 0.
     */
    static Monobuild busy() {
        Monobuild x = withFiles("abce");
        for (int cost : new int[] {5, 3, 8, 3}) {
            x.addTarget(cost);
        }
        glob(x, 0, "a");
        glob(x, 1, "b");
        glob(x, 1, "e");
        for (String glob : new String[] {"c", "**/c", "q", "q/**"}) {
            glob(x, 3, glob);
        }
        x.depend(1, 0);
        x.depend(2, 1);
        rule(x, "**", 2);
        rule(x, "b", 7);
        x.runAll();
        x.edit(0, 20);
        x.run(0);
        x.mark();
        x.edit(1, 21);
        x.delete(3);
        return text(x, "a");
    }

    /**
     * As many files, targets, globs of targets and rules as there can be: the files a to x, 5 of them
     * deleted, and the targets in a chain, each but 0 on the one ahead of it. The text is "x".
     */
    static Monobuild full() {
        Monobuild x = withFiles("abcdefghijklmnopqrstuvwx");
        text(x, "?");
        for (int target = 0; target < 16; target++) {
            x.addTarget(10 + target);
            for (int glob = 0; glob < 4; glob++) {
                x.addGlob(target);
            }
        }
        for (int target = 1; target < 16; target++) {
            x.depend(target, target - 1);
        }
        for (int rule = 0; rule < 12; rule++) {
            x.addRule(rule % 8);
        }
        x.runAll();
        x.mark();
        x.delete(5);
        return text(x, "x");
    }

    /**
     * A repository in which 200 keys were given: 25 to each of eight targets, with the contents 0 to 24 of
     * the file a; 1 depends on 0. The content is 24 and the text "a".
     */
    static Monobuild allKeys() {
        Monobuild x = withFiles("a");
        for (int target = 0; target < 8; target++) {
            x.addTarget(1 + target);
            x.addGlob(target);
        }
        x.depend(1, 0);
        for (int content = 0; content < 25; content++) {
            x.edit(0, content);
            x.runAll();
        }
        return x;
    }

    static Monobuild busyWith(String text) {
        return text(busy(), text);
    }

    static Monobuild fullWith(String text) {
        return text(full(), text);
    }

    /** Numbers that are none from 0 up to a count: the next ones, far ones, and those that a shift takes for others. */
    static int[] outside(int count) {
        return IntStream.of(-1, count, count + 1, 16, 24, 31, 32, 33, -31, -32, 64, Integer.MAX_VALUE,
                Integer.MIN_VALUE).filter(number -> number < 0 || number >= count).distinct().toArray();
    }
}
