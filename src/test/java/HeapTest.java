/** Promises 1, 6 to 11 and 33: a new object, free, add, clear, letter, same, apart, count. */
public final class HeapTest {
    private static final Checks checks = new Checks();

    public static void main(String[] args) {
        startsNew();
        frees();
        adds();
        clears();
        tellsLetters();
        comparesHeaps();
        counts();
        checks.finish();
    }

    private static void startsNew() {
        SwapSteps x = new SwapSteps();
        int[] want = {3, 0, 0, 0, 0, 0, 0};
        for (int what = 0; what < want.length; what++) {
            checks.due("count " + what + " of a new object", x.count(what), want[what]);
        }
        checks.due("one state", x.move(0, 5, 0), 0);
        checks.due("no other", x.move(1, 0, 0), SwapSteps.UNKNOWN);
        checks.due("none takes", x.run(0, 1), 0);
    }

    private static void frees() {
        SwapSteps x = new SwapSteps();
        checks.due("free", x.free(0, 1, true), 0);
        checks.due("free again", x.free(1, 0, true), 1);
        checks.due("bound", x.free(1, 0, false), 1);
        checks.due("bound again", x.free(0, 1, false), 0);
        checks.due("another pair", x.free(0, 2, true), 0);
        checks.due("itself", x.free(1, 1, true), SwapSteps.UNKNOWN);
        checks.due("no such", x.free(0, 3, true), SwapSteps.UNKNOWN);
        checks.due("no such", x.free(3, 0, false), SwapSteps.UNKNOWN);
        checks.due("below", x.free(-1, 0, true), SwapSteps.UNKNOWN);
        checks.due("pairs", x.count(1), 1);
    }

    private static void adds() {
        SwapSteps x = new SwapSteps();
        for (int i = 1; i <= 24; i++) {
            checks.due("add", x.add(1, i % 3), i);
        }
        checks.due("full", x.add(1, 0), SwapSteps.FULL);
        checks.due("unknown ahead of full", x.add(1, 3), SwapSteps.UNKNOWN);
        checks.due("below", x.add(1, -1), SwapSteps.UNKNOWN);
        checks.due("no such heap", x.add(4, 0), SwapSteps.UNKNOWN);
        checks.due("no such heap", x.add(-1, 0), SwapSteps.UNKNOWN);
        checks.due("full as it was", x.count(4), 24);
        checks.due("others empty", x.count(3) + x.count(5) + x.count(6), 0);
        Checks.tell(x, "letters 1");
        checks.due("one letter", x.add(0, 0), 1);
        checks.due("no other", x.add(0, 1), SwapSteps.UNKNOWN);
    }

    private static void clears() {
        SwapSteps x = new SwapSteps();
        Checks.setHeap(x, 3, "abca");
        checks.due("clear", x.clear(3), 4);
        checks.due("clear again", x.clear(3), 0);
        checks.due("no such heap", x.clear(4), SwapSteps.UNKNOWN);
        checks.due("no such heap", x.clear(-1), SwapSteps.UNKNOWN);
    }

    private static void tellsLetters() {
        SwapSteps x = new SwapSteps();
        Checks.setHeap(x, 0, "cba");
        checks.due("row", x.letter(0, 0, 0), 2);
        checks.due("least row, nothing free", x.letter(0, 0, 1), 2);
        x.free(2, 1, true);
        checks.due("row stays", x.letter(0, 0, 0), 2);
        checks.due("least row", x.letter(0, 0, 1), 1);
        checks.due("least row", x.letter(0, 1, 1), 2);
        checks.due("none", x.letter(0, 3, 0), SwapSteps.NONE);
        checks.due("none", x.letter(0, 3, 1), SwapSteps.NONE);
        checks.due("none of an empty one", x.letter(1, 0, 0), SwapSteps.NONE);
        checks.due("far", x.letter(0, Integer.MAX_VALUE, 1), SwapSteps.NONE);
        checks.due("below", x.letter(0, -1, 0), SwapSteps.OUTSIDE);
        checks.due("what", x.letter(0, 0, 2), SwapSteps.OUTSIDE);
        checks.due("what", x.letter(0, 0, -1), SwapSteps.OUTSIDE);
        checks.due("outside ahead of none", x.letter(0, 9, 2), SwapSteps.OUTSIDE);
        checks.due("unknown ahead of outside", x.letter(4, -1, 2), SwapSteps.UNKNOWN);
        // c may pass b, then a, though neither a nor b can pass the other
        Checks.tell(x, "letters 3;free ac;free bc;heap 2 is cba");
        checks.due("least row", x.letter(2, 2, 1), 2);
        checks.due("least row", x.letter(2, 0, 1), 1);
    }

    private static void comparesHeaps() {
        SwapSteps x = new SwapSteps();
        checks.due("empty ones", x.same(0, 3), 1);
        checks.due("empty ones", x.apart(0, 3), SwapSteps.NONE);
        checks.due("one and itself", x.same(2, 2), 1);
        Checks.tell(x, "letters 4;free ac;heap 0 is abcd;heap 1 is abdc;heap 2 is acbd;heap 3 is cabd");
        checks.due("order of cd", x.same(0, 1), 0);
        checks.due("order of cd", x.apart(0, 1), 8 * 2 + 3);
        checks.due("order of bc", x.apart(0, 2), 8 * 1 + 2);
        checks.due("ac is free", x.same(2, 3), 1);
        checks.due("ac is free", x.apart(2, 3), SwapSteps.NONE);
        x.free(0, 2, false);
        checks.due("ac is not", x.same(2, 3), 0);
        checks.due("ac is not", x.apart(2, 3), 2);
        Checks.tell(x, "letters 3;free ab;free ac;free bc;heap 0 is abc;heap 1 is abcc;heap 2 is bc;heap 3 is cba");
        checks.due("how many c", x.apart(0, 1), 8 * 2 + 2);
        checks.due("how many a", x.apart(0, 2), 0);
        checks.due("how many a and c: the first", x.apart(1, 2), 0);
        checks.due("all free", x.same(0, 3), 1);
        checks.due("no such heap", x.same(0, 4), SwapSteps.UNKNOWN);
        checks.due("no such heap", x.same(-1, 0), SwapSteps.UNKNOWN);
        checks.due("no such heap", x.apart(4, 0), SwapSteps.UNKNOWN);
        checks.due("no such heap", x.apart(0, -1), SwapSteps.UNKNOWN);
    }

    private static void counts() {
        SwapSteps x = new SwapSteps();
        Checks.tell(x, "letters 5;free ab;free cd;heap 0 is a;heap 1 is ab;heap 2 is abc;heap 3 is abcd");
        Checks.write(x, "free");
        int[] want = {5, 2, 4, 1, 2, 3, 4};
        for (int what = 0; what < want.length; what++) {
            checks.due("count " + what, x.count(what), want[what]);
        }
        checks.due("count 7", x.count(7), SwapSteps.OUTSIDE);
        checks.due("count -1", x.count(-1), SwapSteps.OUTSIDE);
        checks.due("count least", x.count(Integer.MIN_VALUE), SwapSteps.OUTSIDE);
        checks.due("count greatest", x.count(Integer.MAX_VALUE), SwapSteps.OUTSIDE);
    }
}
