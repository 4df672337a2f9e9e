/** Short ways to put a Monobuild into a state, for the tests. */
final class Repo {
    static final String INDEX = "IndexOutOfBoundsException";
    static final String ARGUMENT = "IllegalArgumentException";
    static final String STATE = "IllegalStateException";

    private Repo() {
    }

    /** Puts a text into the place of the one that stands. */
    static Monobuild text(Monobuild x, String text) {
        x.clearText();
        for (int i = 0; i < text.length(); i++) {
            x.type(text.charAt(i));
        }
        return x;
    }

    static int file(Monobuild x, String path, int content) {
        return text(x, path).addFile(content);
    }

    static int glob(Monobuild x, int target, String glob) {
        return text(x, glob).addGlob(target);
    }

    static int rule(Monobuild x, String glob, int owner) {
        return text(x, glob).addRule(owner);
    }

    /** A repository with files of one letter each, their contents 10, 11, 12 and so on. */
    static Monobuild withFiles(String letters) {
        Monobuild x = new Monobuild();
        for (int i = 0; i < letters.length(); i++) {
            file(x, letters.substring(i, i + 1), 10 + i);
        }
        return x;
    }

    /** A repository with targets of these costs. */
    static Monobuild withTargets(int... costs) {
        Monobuild x = new Monobuild();
        for (int cost : costs) {
            x.addTarget(cost);
        }
        return x;
    }
}
