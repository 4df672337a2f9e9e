import java.util.function.BiFunction;
import java.util.function.Function;
import java.util.function.Supplier;

/**
 * Checks that a call is refused and changes nothing: of two repositories that were made alike one refuses
 * the call, twice, and then both look alike in every way.
 */
final class Refusal {
    private Refusal() {
    }

    static void check(String sentence, String exception, Supplier<Monobuild> recipe,
            Function<Monobuild, Object> call) {
        for (Looks.Look look : Looks.ALL) {
            Monobuild refusing = recipe.get();
            Check.call(sentence, () -> call.apply(refusing), exception);
            Check.call(sentence + ", once more", () -> call.apply(refusing), exception);
            Check.same(sentence + ", and changes nothing", look.at(refusing), look.at(recipe.get()));
        }
    }

    /** Checks that numbers of no file are refused, with few files and with as many as there can be. */
    static void noFile(String promise, BiFunction<Monobuild, Integer, Object> call) {
        outside(promise + ": no file ", 4, Repo::busy, call);
        outside(promise + ": beside 24 no file ", 24, Repo::full, call);
    }

    /** Checks that numbers of no target are refused, with few targets and with as many as there can be. */
    static void noTarget(String promise, BiFunction<Monobuild, Integer, Object> call) {
        outside(promise + ": no target ", 4, Repo::busy, call);
        outside(promise + ": beside 16 no target ", 16, Repo::full, call);
    }

    /** Checks that numbers that are none from 0 up to a count are refused. */
    static void outside(String sentence, int count, Supplier<Monobuild> recipe,
            BiFunction<Monobuild, Integer, Object> call) {
        for (int number : Repo.outside(count)) {
            check(sentence + number, Repo.INDEX, recipe, x -> call.apply(x, number));
        }
    }

    /** Checks that texts that are no globs are refused. */
    static void noGlob(String promise, String exception, Function<Monobuild, Object> call) {
        for (String text : new String[] {"", "/", "/a", "a/", "a//b", "***", "a**", "**a", "a/**b"}) {
            check(promise + ": the text is no glob: " + text, exception, () -> Repo.busyWith(text), call);
        }
    }
}
