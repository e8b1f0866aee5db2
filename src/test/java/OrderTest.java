/** Promises 24 to 27: together, many, of, place. */
public final class OrderTest {
    private static final Checks checks = new Checks();

    public static void main(String[] args) {
        setsTogether();
        howMany();
        inOrder();
        places();
        checks.finish();
    }

    private static void setsTogether() {
        SwapSteps x = new SwapSteps();
        int[] none = {1, 3, 0, 0, 0, 0, 0};
        for (int n = 0; n <= 6; n++) {
            checks.due("together " + n, x.together(n), none[n]);
        }
        Checks.tell(x, "letters 4;free ab;free bc;free ac;free cd");
        int[] some = {1, 4, 4, 1, 0, 0, 0};
        for (int n = 0; n <= 6; n++) {
            checks.due("together " + n, x.together(n), some[n]);
        }
        checks.due("together 7", x.together(7), SwapSteps.OUTSIDE);
        checks.due("together -1", x.together(-1), SwapSteps.OUTSIDE);
    }

    private static void howMany() {
        SwapSteps x = new SwapSteps();
        checks.due("many 0", x.many(0), 1);
        checks.due("many 1", x.many(1), 3);
        checks.due("many 4", x.many(4), 81);
        // 3 to the 60th modulo 1000000007
        long power = 1;
        for (int i = 0; i < 60; i++) {
            power = power * 3 % 1000000007;
        }
        checks.due("many 60", x.many(60), power);
        checks.due("many 61", x.many(61), SwapSteps.OUTSIDE);
        checks.due("many -1", x.many(-1), SwapSteps.OUTSIDE);
        x.free(0, 2, true);
        checks.due("many 2", x.many(2), 8);
        Checks.tell(x, "letters 2;free ab");
        checks.due("many 60 of two free ones", x.many(60), 61);
        Checks.tell(x, "letters 6");
        for (int p = 0; p < 6; p++) {
            for (int q = p + 1; q < 6; q++) {
                x.free(p, q, true);
            }
        }
        // as many as there are rows of six counts with this sum: 15 over 5, 65 over 5
        checks.due("many 10 of six free ones", x.many(10), 3003);
        checks.due("many 60 of six free ones", x.many(60), 8259888);
    }

    private static void inOrder() {
        SwapSteps x = new SwapSteps();
        x.free(0, 2, true);
        // aa ab ac ba bb bc cb cc: ca is ac
        int[][] rows = {{0, 0}, {0, 1}, {0, 2}, {1, 0}, {1, 1}, {1, 2}, {2, 1}, {2, 2}};
        for (int i = 0; i < rows.length; i++) {
            checks.due("heap " + i, x.of(2, i, 0), rows[i][0]);
            checks.due("heap " + i, x.of(2, i, 1), rows[i][1]);
        }
        checks.due("no such heap", x.of(2, 8, 0), SwapSteps.NONE);
        checks.due("no such letter", x.of(2, 0, 2), SwapSteps.NONE);
        checks.due("the empty one", x.of(0, 0, 0), SwapSteps.NONE);
        checks.due("far", x.of(2, Integer.MAX_VALUE, Integer.MAX_VALUE), SwapSteps.NONE);
        checks.due("n 21", x.of(21, 0, 0), SwapSteps.OUTSIDE);
        checks.due("n -1", x.of(-1, 0, 0), SwapSteps.OUTSIDE);
        checks.due("i -1", x.of(2, -1, 0), SwapSteps.OUTSIDE);
        checks.due("k -1", x.of(2, 9, -1), SwapSteps.OUTSIDE);
        Checks.tell(x, "letters 6");
        // all 6 to the 20th are rows of their own: the digits of i
        int i = Integer.MAX_VALUE;
        for (int k = 19; k >= 0; k--) {
            checks.due("digit " + k, x.of(20, Integer.MAX_VALUE, k), i % 6);
            i /= 6;
        }
    }

    private static void places() {
        SwapSteps x = new SwapSteps();
        checks.due("the empty one", x.place(0), 0);
        x.free(0, 2, true);
        Checks.setHeap(x, 0, "ca");
        checks.due("ac", x.place(0), 2);
        Checks.setHeap(x, 0, "cc");
        checks.due("cc", x.place(0), 7);
        Checks.tell(x, "letters 6;heap 0 is ffffffffffffffffffff;heap 1 is aaaaaaaaaaaaaaaaaaaaa;heap 2 is faaaaaaaaaaaaaaaaaaa");
        long power = 1;
        for (int n = 0; n < 20; n++) {
            power = power * 6 % 1000000007;
        }
        checks.due("the last of 20", x.place(0), (power + 1000000006) % 1000000007);
        checks.due("21", x.place(1), SwapSteps.OUTSIDE);
        checks.due("20", x.add(2, 0), 21);
        checks.due("21", x.place(2), SwapSteps.OUTSIDE);
        checks.due("no such heap", x.place(4), SwapSteps.UNKNOWN);
        checks.due("no such heap", x.place(-1), SwapSteps.UNKNOWN);
    }
}
