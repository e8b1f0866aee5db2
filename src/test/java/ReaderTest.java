/** Promises 28 to 32: reader, move, minds, run, taken. */
public final class ReaderTest {
    private static final Checks checks = new Checks();

    public static void main(String[] args) {
        readers();
        moves();
        mindings();
        runs();
        takings();
        checks.finish();
    }

    private static void readers() {
        SwapSteps x = new SwapSteps();
        checks.due("no states", x.reader(0, 0), SwapSteps.OUTSIDE);
        checks.due("6 states", x.reader(6, 0), SwapSteps.OUTSIDE);
        checks.due("no such states take", x.reader(5, 32), SwapSteps.OUTSIDE);
        checks.due("no such states take", x.reader(1, -1), SwapSteps.OUTSIDE);
        checks.due("as it was", x.move(1, 0, 0), SwapSteps.UNKNOWN);
        checks.due("5 states", x.reader(5, 31), 1);
        checks.due("takes", x.run(0, 1), 1);
        checks.due("a move", x.move(0, 2, 4), 0);
        checks.due("anew", x.reader(5, 30), 1);
        checks.due("to itself", x.move(0, 2, 4), 0);
        checks.due("takes not", x.run(0, 1), 0);
    }

    private static void moves() {
        SwapSteps x = new SwapSteps();
        x.reader(3, 0);
        for (int state = 0; state < 3; state++) {
            for (int letter = 0; letter < 6; letter++) {
                checks.due("itself at first", x.move(state, letter, (state + letter) % 3), state);
            }
        }
        checks.due("moved", x.move(2, 5, 0), 1);
        checks.due("moved", x.move(2, 5, 0), 0);
        checks.due("no such state", x.move(3, 0, 0), SwapSteps.UNKNOWN);
        checks.due("no such state", x.move(0, 0, 3), SwapSteps.UNKNOWN);
        checks.due("no such state", x.move(-1, 0, 0), SwapSteps.UNKNOWN);
        checks.due("no such state", x.move(0, 0, -1), SwapSteps.UNKNOWN);
        checks.due("no such letter", x.move(0, 6, 0), SwapSteps.OUTSIDE);
        checks.due("no such letter", x.move(0, -1, 0), SwapSteps.OUTSIDE);
        checks.due("unknown ahead of outside", x.move(0, 6, 3), SwapSteps.UNKNOWN);
        checks.due("letters beyond those that there are", x.move(0, 5, 1), 2);
        Checks.tell(x, "letters 2");
        checks.due("the moves stay", x.move(0, 5, 1), 1);
    }

    private static void mindings() {
        SwapSteps x = new SwapSteps();
        checks.due("one state", x.minds(), SwapSteps.NONE);
        x.reader(3, 4);
        // in state 1, a leads to 2 and b back to 0
        x.move(1, 0, 2);
        x.move(1, 1, 0);
        checks.due("nothing is free", x.minds(), SwapSteps.NONE);
        x.free(0, 1, true);
        checks.due("ab in 1", x.minds(), 64 + 1);
        x.free(0, 1, false);
        x.free(0, 2, true);
        checks.due("ac", x.minds(), SwapSteps.NONE);
        x.move(2, 2, 1);
        checks.due("ac in 1", x.minds(), 64 + 2);
        x.free(1, 2, true);
        x.free(0, 1, true);
        checks.due("ab is ahead of ac", x.minds(), 64 + 1);
        Checks.tell(x, "letters 6;free ef;free ab");
        x.reader(2, 0);
        x.move(0, 4, 1);
        checks.due("e alone", x.minds(), SwapSteps.NONE);
        x.move(1, 5, 0);
        checks.due("ef", x.minds(), 8 * 4 + 5);
        Checks.tell(x, "letters 5");
        checks.due("there is no f", x.minds(), SwapSteps.NONE);
    }

    private static void runs() {
        SwapSteps x = new SwapSteps();
        x.reader(3, 4);
        x.move(0, 0, 1);
        x.move(1, 2, 2);
        Checks.setHeap(x, 0, "ca");
        checks.due("ca", x.run(0, 0), 1);
        checks.due("ca", x.run(0, 1), 0);
        x.free(0, 2, true);
        checks.due("ac, the least row", x.run(0, 0), 2);
        checks.due("ac, the least row", x.run(0, 1), 1);
        checks.dueRow("the row stays", x, 0, "ca");
        checks.due("the empty one", x.run(1, 0), 0);
        checks.due("what 2", x.run(0, 2), SwapSteps.OUTSIDE);
        checks.due("what -1", x.run(0, -1), SwapSteps.OUTSIDE);
        checks.due("no such heap", x.run(4, 2), SwapSteps.UNKNOWN);
        checks.due("no such heap", x.run(-1, 0), SwapSteps.UNKNOWN);
    }

    private static void takings() {
        SwapSteps x = new SwapSteps();
        checks.due("none", x.taken(3), 0);
        x.reader(1, 1);
        x.free(0, 2, true);
        checks.due("all of none", x.taken(0), 1);
        for (int n = 0; n <= 60; n++) {
            checks.due("all of " + n, x.taken(n), x.many(n));
        }
        x.reader(2, 2);
        x.move(0, 0, 1);
        x.move(1, 0, 0);
        // an odd number of a: of length 1 a; of length 2 ab ac ba
        checks.due("odd", x.taken(0), 0);
        checks.due("odd", x.taken(1), 1);
        checks.due("odd", x.taken(2), 3);
        checks.due("61", x.taken(61), SwapSteps.OUTSIDE);
        checks.due("-1", x.taken(-1), SwapSteps.OUTSIDE);
    }
}
