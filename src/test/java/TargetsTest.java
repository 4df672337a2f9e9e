/** Promises 12 to 20: targets, and what is affected. */
public final class TargetsTest {
    private TargetsTest() {
    }

    public static void main(String[] args) {
        promise12AddTarget();
        promise13AddGlob();
        promise14Depend();
        promise14LongCircle();
        promise15Targets();
        promise16Inputs();
        promise17Above();
        promise18OrderAt();
        promise19And20Affected();
        Check.finish("TargetsTest");
    }

    private static void promise12AddTarget() {
        Monobuild x = new Monobuild();
        Check.call("addTarget(0)", () -> x.addTarget(0), Repo.ARGUMENT);
        Check.call("addTarget(1001)", () -> x.addTarget(1001), Repo.ARGUMENT);
        Check.call("addTarget(-5)", () -> x.addTarget(-5), Repo.ARGUMENT);
        Check.same("addTarget(1)", x.addTarget(1), 0);
        Check.same("addTarget(1000)", x.addTarget(1000), 1);
        Check.same("no inputs", x.inputs(1), 0);
        Check.same("nobody above", x.above(1), 0);
        Check.same("costs", x.longestShard(1), 1001);
        for (int i = 2; i < 16; i++) {
            Check.same("target " + i, x.addTarget(i), i);
        }
        Check.call("a 17th target", () -> x.addTarget(1), Repo.STATE);
        Check.call("a 17th target, cost wrong", () -> x.addTarget(0), Repo.ARGUMENT);
        Check.same("16 targets", x.targets(), 16);
    }

    private static void promise13AddGlob() {
        Monobuild x = Repo.withFiles("abc");
        x.addTarget(1);
        x.addTarget(1);
        Check.same("first glob", Repo.glob(x, 0, "a"), 1);
        Check.same("second glob", Repo.glob(x, 0, "d"), 1);
        Check.same("third glob", Repo.glob(x, 0, "?"), 3);
        Check.call("no such target", () -> x.addGlob(2), Repo.INDEX);
        Check.call("no such target -1", () -> x.addGlob(-1), Repo.INDEX);
        Repo.text(x, "a**");
        Check.call("no glob", () -> x.addGlob(0), Repo.ARGUMENT);
        Check.call("no glob, no target", () -> x.addGlob(2), Repo.INDEX);
        Check.same("fourth glob", Repo.glob(x, 0, "**"), 3);
        Check.call("fifth glob", () -> x.addGlob(0), Repo.STATE);
        Repo.text(x, "/");
        Check.call("fifth, and no glob", () -> x.addGlob(0), Repo.ARGUMENT);
        x.delete(0);
        Check.same("a deleted file is no input", Repo.glob(x, 1, "?"), 2);
        Check.same("the same glob once more", x.addGlob(1), 2);
        Check.same("and again", x.addGlob(1), 2);
        Check.same("and again, the last", x.addGlob(1), 2);
        Check.call("the same glob a fifth time", () -> x.addGlob(1), Repo.STATE);
    }

    private static void promise14Depend() {
        Monobuild x = Repo.withTargets(1, 1, 1, 1, 1);
        Check.same("2 on 1", x.depend(2, 1), 1);
        Check.same("2 on 0", x.depend(2, 0), 2);
        Check.same("2 on 4", x.depend(2, 4), 3);
        Check.same("3 on 2", x.depend(3, 2), 1);
        Check.call("2 on 1 again", () -> x.depend(2, 1), Repo.STATE);
        Check.call("2 on 2", () -> x.depend(2, 2), Repo.STATE);
        Check.call("1 on 2", () -> x.depend(1, 2), Repo.STATE);
        Check.call("1 on 3", () -> x.depend(1, 3), Repo.STATE);
        Check.call("4 on 3", () -> x.depend(4, 3), Repo.STATE);
        Check.call("5 on 0", () -> x.depend(5, 0), Repo.INDEX);
        Check.call("0 on 5", () -> x.depend(0, 5), Repo.INDEX);
        Check.call("-1 on 0", () -> x.depend(-1, 0), Repo.INDEX);
        Check.call("0 on -1", () -> x.depend(0, -1), Repo.INDEX);
        Check.call("5 on 5", () -> x.depend(5, 5), Repo.INDEX);
        Check.same("what was refused changed nothing", x.above(3), 0);
        Check.same("3 on 1, though 2 lies between", x.depend(3, 1), 2);
        Check.same("1 on 4", x.depend(1, 4), 1);
        Check.same("0 on 1", x.depend(0, 1), 1);
        Check.call("1 on 0", () -> x.depend(1, 0), Repo.STATE);
    }

    private static void promise14LongCircle() {
        Monobuild x = new Monobuild();
        for (int i = 0; i < 16; i++) {
            x.addTarget(1);
        }
        // A chain that goes up and down in the numbers: 7 on 12, 12 on 1, 1 on 6 and so on.
        for (int i = 1; i < 16; i++) {
            Check.same("link " + i, x.depend(i * 5 % 16, (i + 1) * 5 % 16), 1);
        }
        Check.call("the circle's end", () -> x.depend(0, 5), Repo.STATE);
        Check.same("all above the last one", x.above(0), 0xFFFE);
        Check.same("the last one is first", x.orderAt(0), 0);
        Check.same("the first one is last", x.orderAt(15), 5);
        Check.same("nobody above the first one", x.above(5), 0);
    }

    private static void promise15Targets() {
        Monobuild x = new Monobuild();
        Check.same("none", x.targets(), 0);
        x.addTarget(3);
        x.addTarget(3);
        Check.same("two", x.targets(), 2);
        Check.call("refused", () -> x.addTarget(0), Repo.ARGUMENT);
        Check.same("still two", x.targets(), 2);
    }

    private static void promise16Inputs() {
        Monobuild x = Repo.withFiles("ab");
        x.addTarget(1);
        x.addTarget(1);
        Check.same("no globs", x.inputs(0), 0);
        Repo.glob(x, 0, "b");
        Check.same("b", x.inputs(0), 2);
        Repo.glob(x, 0, "c/*");
        Check.same("none of c", x.inputs(0), 2);
        Repo.file(x, "c/x", 1);
        Repo.file(x, "c", 1);
        Check.same("a later file counts", x.inputs(0), 6);
        Check.same("for its target alone", x.inputs(1), 0);
        x.delete(1);
        Check.same("a deleted file does not", x.inputs(0), 4);
        Repo.file(x, "b", 1);
        Check.same("it does again", x.inputs(0), 6);
        Repo.glob(x, 1, "**");
        Check.same("all", x.inputs(1), 15);
        Repo.file(x, "c/y", 1);
        Check.same("a glob meets two later files", x.inputs(0), 22);
        x.addTarget(1);
        Repo.glob(x, 2, "d");
        Repo.glob(x, 2, "?");
        Repo.file(x, "d", 1);
        Check.same("two globs meet one later file", x.inputs(2), 43);
        Repo.file(x, "e", 1);
        Check.same("the second one alone meets another", x.inputs(2), 107);
        Check.call("inputs(3)", () -> x.inputs(3), Repo.INDEX);
        Check.call("inputs(-1)", () -> x.inputs(-1), Repo.INDEX);
        Check.call("inputs(16)", () -> x.inputs(16), Repo.INDEX);
    }

    private static void promise17Above() {
        Monobuild x = Repo.withTargets(1, 1, 1, 1, 1, 1);
        x.depend(1, 0);
        x.depend(0, 4);
        x.depend(2, 1);
        x.depend(3, 4);
        Check.same("above 4", x.above(4), 0b1111);
        Check.same("above 0", x.above(0), 0b0110);
        Check.same("above 1", x.above(1), 0b0100);
        Check.same("above 2", x.above(2), 0);
        Check.same("above 3", x.above(3), 0);
        Check.same("above 5", x.above(5), 0);
        Check.call("above(6)", () -> x.above(6), Repo.INDEX);
        Check.call("above(-1)", () -> x.above(-1), Repo.INDEX);
        Check.call("above(32)", () -> x.above(32), Repo.INDEX);
    }

    private static void order(Monobuild x, int... due) {
        for (int place = 0; place < due.length; place++) {
            Check.same("orderAt(" + place + ")", x.orderAt(place), due[place]);
        }
    }

    private static void promise18OrderAt() {
        Monobuild x = Repo.withTargets(1, 1, 1, 1, 1);
        order(x, 0, 1, 2, 3, 4);
        x.depend(0, 3);
        order(x, 1, 2, 3, 0, 4);
        x.depend(2, 4);
        order(x, 1, 3, 0, 4, 2);
        x.depend(1, 2);
        order(x, 3, 0, 4, 2, 1);
        x.depend(3, 4);
        order(x, 4, 2, 1, 3, 0);
        Check.call("orderAt(5)", () -> x.orderAt(5), Repo.INDEX);
        Check.call("orderAt(-1)", () -> x.orderAt(-1), Repo.INDEX);
        Check.call("orderAt(MAX)", () -> x.orderAt(Integer.MAX_VALUE), Repo.INDEX);
        x.addTarget(9);
        order(x, 4, 2, 1, 3, 0, 5);
    }

    private static void affected(Monobuild x, int file, int due) {
        Check.same("affectedBy(" + file + ")", x.affectedBy(file), due);
        Check.same("affectedByGoingDown(" + file + ")", x.affectedByGoingDown(file), due);
    }

    private static void promise19And20Affected() {
        Monobuild x = Repo.withFiles("abc");
        for (int i = 0; i < 6; i++) {
            x.addTarget(1);
        }
        Repo.glob(x, 0, "a");
        Repo.glob(x, 4, "b");
        Repo.glob(x, 4, "a");
        Repo.glob(x, 5, "b");
        affected(x, 0, 0b010001);
        x.depend(1, 0);
        x.depend(2, 1);
        x.depend(3, 4);
        x.depend(0, 5);
        affected(x, 0, 0b011111);
        affected(x, 1, 0b111111);
        affected(x, 2, 0);
        x.delete(0);
        affected(x, 0, 0b011111);
        Repo.glob(x, 2, "c");
        affected(x, 2, 0b000100);
        for (int file : new int[] {-1, 3, 24, Integer.MIN_VALUE}) {
            Check.call("affectedBy(" + file + ")", () -> x.affectedBy(file), Repo.INDEX);
            Check.call("affectedByGoingDown(" + file + ")", () -> x.affectedByGoingDown(file), Repo.INDEX);
        }
        Repo.file(x, "d", 1);
        affected(x, 3, 0);
    }
}
