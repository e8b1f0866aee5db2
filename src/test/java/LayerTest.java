/** Promises 12 to 14: layer, ahead, begins. */
public final class LayerTest {
    private static final Checks checks = new Checks();

    public static void main(String[] args) {
        layers();
        orders();
        beginnings();
        checks.finish();
    }

    private static void layers() {
        SwapSteps x = new SwapSteps();
        checks.due("no layers", x.layer(0, -1), 0);
        checks.due("no layers", x.layer(0, 0), SwapSteps.NONE);
        Checks.tell(x, "letters 4;free ac;free bd;free ad;heap 0 is cabda");
        // c and a; then b and d; then a
        checks.due("layers", x.layer(0, -1), 3);
        checks.due("layer 0", x.layer(0, 0), 5);
        checks.due("layer 1", x.layer(0, 1), 10);
        checks.due("layer 2", x.layer(0, 2), 1);
        checks.due("layer 3", x.layer(0, 3), SwapSteps.NONE);
        checks.due("far layer", x.layer(0, Integer.MAX_VALUE), SwapSteps.NONE);
        checks.due("below", x.layer(0, -2), SwapSteps.OUTSIDE);
        checks.due("no such heap", x.layer(4, -2), SwapSteps.UNKNOWN);
        Checks.tell(x, "letters 1;heap 0 is aaaaaaaaaaaaaaaaaaaaaaaa");
        checks.due("most layers", x.layer(0, -1), 24);
        checks.due("the last", x.layer(0, 23), 1);
        checks.due("none more", x.layer(0, 24), SwapSteps.NONE);
    }

    private static void orders() {
        SwapSteps x = new SwapSteps();
        Checks.tell(x, "letters 3;free ac;heap 0 is acbac");
        checks.due("free", x.ahead(0, 0, 1), 0);
        checks.due("not free", x.ahead(0, 0, 2), 1);
        checks.due("alike", x.ahead(0, 0, 3), 1);
        checks.due("by b", x.ahead(0, 0, 4), 1);
        checks.due("backward", x.ahead(0, 2, 0), 0);
        checks.due("itself", x.ahead(0, 2, 2), 0);
        checks.due("the last two", x.ahead(0, 3, 4), 0);
        // a is ahead of c by way of b alone: one place after the other
        Checks.tell(x, "letters 4;free ac;free ad;free bd;heap 0 is abcd;heap 1 is acbd");
        checks.due("by b and c", x.ahead(0, 0, 3), 1);
        checks.due("no way", x.ahead(1, 0, 3), 0);
        checks.due("no such place", x.ahead(0, 0, 4), SwapSteps.OUTSIDE);
        checks.due("no such place", x.ahead(0, 4, 0), SwapSteps.OUTSIDE);
        checks.due("no such place", x.ahead(0, -1, 0), SwapSteps.OUTSIDE);
        checks.due("no such place", x.ahead(0, 0, -1), SwapSteps.OUTSIDE);
        checks.due("no places", x.ahead(2, 0, 0), SwapSteps.OUTSIDE);
        checks.due("no such heap", x.ahead(4, 0, -1), SwapSteps.UNKNOWN);
    }

    private static void beginnings() {
        SwapSteps x = new SwapSteps();
        checks.due("of the empty one", x.begins(0, 0), 1);
        checks.due("of the empty one", x.begins(0, 1), 1);
        checks.due("of the empty one", x.begins(0, 2), 0);
        Checks.tell(x, "letters 3;free ac;heap 0 is acbac;heap 1 is abc");
        checks.due("beginnings", x.begins(0, 0), 8);
        checks.due("ways", x.begins(0, 1), 4);
        checks.due("wide", x.begins(0, 2), 2);
        checks.due("one way", x.begins(1, 1), 1);
        checks.due("one wide", x.begins(1, 2), 1);
        checks.due("one after the other", x.begins(1, 0), 4);
        StringBuilder text = new StringBuilder("letters 6");
        checks.due("letters", Checks.tell(x, text.toString()), 1);
        for (int p = 0; p < 6; p++) {
            for (int q = p + 1; q < 6; q++) {
                x.free(p, q, true);
            }
        }
        Checks.setHeap(x, 0, "abcdefabcdefabcdefabcdef");
        checks.due("most beginnings: 5 to the 6th", x.begins(0, 0), 15625);
        // 24! / 4!^6 modulo 1000000007
        checks.due("most ways", x.begins(0, 1), 514383310);
        checks.due("widest", x.begins(0, 2), 6);
        Checks.setHeap(x, 1, "aaaaaaaaaaaabbbbbbbbbbbb");
        checks.due("ways below the modulus", x.begins(1, 1), 2704156);
        checks.due("what 3", x.begins(0, 3), SwapSteps.OUTSIDE);
        checks.due("what -1", x.begins(0, -1), SwapSteps.OUTSIDE);
        checks.due("no such heap", x.begins(4, 3), SwapSteps.UNKNOWN);
    }
}
