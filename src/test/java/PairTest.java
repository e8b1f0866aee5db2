/** Promises 15 to 19: join, left, shared, both, mirror. */
public final class PairTest {
    private static final Checks checks = new Checks();

    public static void main(String[] args) {
        joins();
        takesOff();
        shares();
        findsBoth();
        mirrors();
        refusesUnknown();
        checks.finish();
    }

    private static void joins() {
        SwapSteps x = new SwapSteps();
        Checks.tell(x, "free ac;heap 0 is bc;heap 1 is ab;heap 2 is cccccccccccc");
        checks.due("join", x.join(0, 1, 3), 4);
        checks.dueRow("join", x, 3, "bacb");
        checks.due("join into the first", x.join(0, 1, 0), 4);
        checks.dueRow("join", x, 0, "bacb");
        checks.dueRow("the second stays", x, 1, "ab");
        checks.due("join into the second", x.join(0, 1, 1), 6);
        checks.dueRow("join", x, 1, "bacbab");
        checks.due("join to 24", x.join(2, 2, 2), 24);
        checks.due("more than 24", x.join(2, 0, 3), SwapSteps.FULL);
        checks.dueRow("nothing changed", x, 3, "bacb");
        checks.due("clear", x.clear(3), 4);
        checks.due("an empty one behind 24", x.join(2, 3, 1), 24);
        checks.due("two empty ones", x.join(3, 3, 3), 0);
    }

    private static void takesOff() {
        SwapSteps x = new SwapSteps();
        Checks.tell(x, "letters 4;free ac;free bd;free ad;heap 0 is abcd;heap 1 is ab;heap 2 is dc");
        checks.due("left", x.left(1, 0, 3), 2);
        checks.dueRow("left", x, 3, "cd");
        checks.due("longer than it", x.left(0, 1, 3), SwapSteps.NOT);
        checks.due("no beginning", x.left(2, 0, 3), SwapSteps.NOT);
        checks.dueRow("nothing changed", x, 3, "cd");
        checks.due("all off", x.left(0, 0, 0), 0);
        checks.due("nothing off", x.left(0, 2, 2), 2);
        checks.dueRow("nothing off: dc is no cd", x, 2, "dc");
        // told by its least row, even if nothing is taken off
        Checks.tell(x, "heap 1 is da");
        checks.due("nothing off", x.left(0, 1, 1), 2);
        checks.dueRow("least row", x, 1, "ad");
    }

    private static void shares() {
        SwapSteps x = new SwapSteps();
        Checks.tell(x, "letters 4;free ac;free bd;heap 0 is cabd;heap 1 is acdb;heap 2 is bbbb");
        checks.due("one heap", x.shared(0, 1, 3), 4);
        checks.dueRow("one heap", x, 3, "acbd");
        checks.due("nothing", x.shared(0, 2, 3), 0);
        checks.dueRow("nothing", x, 3, "");
        Checks.tell(x, "heap 0 is cacb;heap 1 is acab");
        checks.due("shared", x.shared(0, 1, 0), 2);
        checks.dueRow("shared", x, 0, "ac");
        checks.dueRow("the other stays", x, 1, "acab");
        checks.due("with the empty one", x.shared(1, 3, 1), 0);
    }

    private static void findsBoth() {
        SwapSteps x = new SwapSteps();
        Checks.tell(x, "letters 4;free ac;free bd;free ad;heap 0 is ba;heap 1 is bcc;heap 2 is ab");
        checks.due("both", x.both(0, 1, 3), 4);
        checks.dueRow("both", x, 3, "bacc");
        checks.due("none", x.both(0, 2, 3), SwapSteps.NOT);
        checks.dueRow("nothing changed", x, 3, "bacc");
        checks.due("one and itself", x.both(0, 0, 0), 2);
        checks.due("a beginning and the whole", x.both(0, 3, 0), 4);
        Checks.tell(x, "heap 0 is aaaaaaaaaaaaaaa;heap 1 is cccccccccc;heap 2 is ccccccccc;heap 3 is b");
        checks.due("25", x.both(0, 1, 3), SwapSteps.FULL);
        checks.dueRow("nothing changed", x, 3, "b");
        checks.due("24", x.both(2, 0, 3), 24);
        checks.dueRow("24", x, 3, "aaaaaaaaaaaaaaaccccccccc");
        Checks.tell(x, "heap 3 is cccccccccccccccb");
        checks.due("none, and too long: none", x.both(0, 3, 1), SwapSteps.NOT);
        checks.due("empty ones", x.clear(0), 15);
        checks.due("with the empty one", x.both(0, 3, 2), 16);
    }

    private static void mirrors() {
        SwapSteps x = new SwapSteps();
        Checks.tell(x, "free ab;heap 0 is bac;heap 1 is abcc");
        checks.due("mirror", x.mirror(0), 3);
        checks.dueRow("the row from behind, no least row", x, 0, "cab");
        checks.due("mirror", x.mirror(1), 4);
        checks.dueRow("mirror", x, 1, "ccba");
        checks.due("an empty one", x.mirror(2), 0);
        checks.due("no such heap", x.mirror(4), SwapSteps.UNKNOWN);
        checks.due("no such heap", x.mirror(-1), SwapSteps.UNKNOWN);
    }

    private static void refusesUnknown() {
        SwapSteps x = new SwapSteps();
        int[][] unknown = {{4, 0, 0}, {0, 4, 0}, {0, 0, 4}, {-1, 0, 0}, {0, -1, 0}, {0, 0, -1}};
        Checks.tell(x, "heap 0 is aaaaaaaaaaaaaaaaaaaaaaaa");
        for (int[] u : unknown) {
            checks.due("join", x.join(u[0], u[1], u[2]), SwapSteps.UNKNOWN);
            checks.due("left", x.left(u[0], u[1], u[2]), SwapSteps.UNKNOWN);
            checks.due("shared", x.shared(u[0], u[1], u[2]), SwapSteps.UNKNOWN);
            checks.due("both", x.both(u[0], u[1], u[2]), SwapSteps.UNKNOWN);
        }
        checks.due("nothing changed", x.count(3), 24);
    }
}
