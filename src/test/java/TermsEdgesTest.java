import java.util.Arrays;

/** What binds every promise: NONE, the 512 calls of an object, questions that keep nothing, and objects apart. */
public final class TermsEdgesTest {
    private TermsEdgesTest() {
    }

    public static void main(String[] args) {
        none();
        the512thCall();
        questionsKeepNothing();
        objectsApart();
        Check.finish("TermsEdgesTest");
    }

    private static void none() {
        Check.same("Terms: NONE", Monobuild.NONE, -1);
        Check.same("Promise 7: NONE", new Monobuild().findFile(), -1);
        Check.same("Promise 27: NONE", Repo.busy().shardOf(0, 1), -1);
        Check.same("Promise 29: NONE", Repo.withTargets(2).shardsFor(1), -1);
        Check.same("Promise 31: NONE", Repo.withFiles("a").ownerOf(0), -1);
    }

    /** A repository that has been used for 511 calls, its last ones edits of the file a to the content 24. */
    private static Monobuild after511Calls() {
        Monobuild x = Repo.allKeys();
        int calls = 3 + 2 * 8 + 1 + 2 * 25;
        for (; calls < 511; calls++) {
            x.edit(0, 24);
        }
        return x;
    }

    private static void the512thCall() {
        Check.same("Terms: the 512th call is type", after511Calls().type('b'), 2);
        Check.same("Terms: the 512th call is edit", after511Calls().edit(0, 1), 24);
        Check.same("Terms: the 512th call is keyOf", after511Calls().keyOf(7), 200);
        Check.same("Terms: the 512th call is needed", after511Calls().needed(), 0);
        Check.same("Terms: the 512th call is runAll", after511Calls().runAll(), 0);
        Check.same("Terms: the 512th call is above", after511Calls().above(0), 2);
        Check.same("Terms: the 512th call is changed", after511Calls().changed(), 1);
        Check.call("Terms: the 512th call is refused", () -> after511Calls().addFile(1), Repo.STATE);
    }

    /** Asked in any number and order, the questions answer as if none had been asked ahead of them. */
    private static void questionsKeepNothing() {
        for (Looks.Look look : Looks.ALL) {
            Monobuild asked = Repo.busy();
            ask(asked);
            ask(asked);
            Check.same("Terms: questions keep nothing", look.at(asked), look.at(Repo.busy()));
        }
    }

    private static void ask(Monobuild x) {
        int[] wrongToo = {-1, 0, 1, 2, 3, 4};
        for (int number : wrongToo) {
            for (Check.Call call : Arrays.<Check.Call>asList(() -> x.matches(number), () -> x.inputs(number),
                    () -> x.above(number), () -> x.orderAt(number), () -> x.affectedBy(number),
                    () -> x.affectedByGoingDown(number), () -> x.keyOf(number), () -> x.whyRun(number),
                    () -> x.shardOf(number, 2), () -> x.longestShard(number), () -> x.shardsFor(number),
                    () -> x.ownerOf(number))) {
                Check.outcome(call);
            }
        }
        for (Check.Call call : Arrays.<Check.Call>asList(() -> x.isPath(), () -> x.isGlob(), () -> x.findFile(),
                () -> x.files(), () -> x.targets(), () -> x.needed(), () -> x.keys(), () -> x.changed(),
                () -> x.reviewers())) {
            Check.outcome(call);
        }
    }

    private static void objectsApart() {
        for (Looks.Look look : Looks.ALL) {
            Monobuild busy = Repo.busy();
            Monobuild empty = new Monobuild();
            String due = look.at(new Monobuild());
            Check.same("Promise 1: a new object beside others", look.at(empty), due);
            Check.same("Terms: an object beside others", look.at(busy), look.at(Repo.busy()));
        }
    }
}
