import java.math.BigInteger;

/** The bounds that the terms tell of LAYERS, AHEAD and BEGINNINGS and promises 12 to 14, a test for each sentence. */
public final class LayerBoundsTest {
    private static final int MIN = Integer.MIN_VALUE;
    private static final int MAX = Integer.MAX_VALUE;
    private static final BigInteger MODULUS = BigInteger.valueOf(1000000007);
    private static final Checks checks = new Checks();

    public static void main(String[] args) {
        layersOfNone();
        layersOf1To24Letters();
        layerFromMinus1();
        layerOfOneToSixLetters();
        layerOfWhatIsLeft();
        aheadOfPlacesThatThereAre();
        aheadOfItselfAndBackward();
        aheadOfAlikeAndBound();
        aheadByAPlaceBetween();
        aheadByManyPlacesBetween();
        beginsOfNone();
        beginsOfWhat0To2();
        beginningsOf1To24Letters();
        mostBeginnings();
        waysModulo();
        wideFrom0To6();
        wideBehindTheFront();
        checks.finish();
    }

    private static void layersOfNone() {
        SwapSteps x = new SwapSteps();
        for (int h = 0; h <= 3; h++) {
            checks.due("how many", x.layer(h, -1), 0);
            checks.due("the first", x.layer(h, 0), SwapSteps.NONE);
            checks.due("below", x.layer(h, -2), SwapSteps.OUTSIDE);
        }
    }

    private static void layersOf1To24Letters() {
        for (int n = 1; n <= 24; n++) {
            SwapSteps x = new SwapSteps();
            Checks.setHeap(x, 3, "abcabcabcabcabcabcabcabc".substring(0, n));
            checks.due("how many of " + n, x.layer(3, -1), n);
            for (int i = 0; i <= 25; i++) {
                checks.due("layer " + i + " of " + n, x.layer(3, i), i < n ? 1 << i % 3 : SwapSteps.NONE);
            }
        }
    }

    /** "How many LAYERS (i -1) ..; NONE: there are not so many. .. OUTSIDE: i below -1." */
    private static void layerFromMinus1() {
        SwapSteps x = Checks.made("free ab;heap 0 is abc");
        checks.due("i -1", x.layer(0, -1), 2);
        checks.due("i -2", x.layer(0, -2), SwapSteps.OUTSIDE);
        checks.due("i least", x.layer(0, MIN), SwapSteps.OUTSIDE);
        checks.due("i 0", x.layer(0, 0), 3);
        checks.due("the last", x.layer(0, 1), 4);
        checks.due("one beyond", x.layer(0, 2), SwapSteps.NONE);
        checks.due("the length", x.layer(0, 3), SwapSteps.NONE);
        checks.due("24", x.layer(0, 24), SwapSteps.NONE);
        checks.due("i greatest", x.layer(0, MAX), SwapSteps.NONE);
        checks.due("heap 4, i -2", x.layer(4, -2), SwapSteps.UNKNOWN);
    }

    /** "LETTERS of the i-th, by bits": one letter, and all six. */
    private static void layerOfOneToSixLetters() {
        SwapSteps x = Checks.allFree(6);
        for (int p = 0; p < 6; p++) {
            x.add(0, 5 - p);
            checks.due("letters of the only one", x.layer(0, 0), 63 & ~((1 << 5 - p) - 1));
            checks.due("one layer", x.layer(0, -1), 1);
        }
        Checks.setHeap(x, 1, "ffffaaaabbbbeeeeccccdddd");
        checks.due("layers of 24", x.layer(1, -1), 4);
        for (int i = 0; i < 4; i++) {
            checks.due("layer " + i, x.layer(1, i), 63);
        }
        checks.due("layer 4", x.layer(1, 4), SwapSteps.NONE);
        Checks.setHeap(x, 2, "afffff");
        checks.due("the first of a and f", x.layer(2, 0), 33);
        checks.due("the last of f alone", x.layer(2, 4), 32);
    }

    /** "the next likewise of what is left when these are taken off the front". */
    private static void layerOfWhatIsLeft() {
        SwapSteps x = Checks.made("letters 4;free ac;free bd;free ad;heap 0 is abcd;heap 1 is dcba");
        // abcd: a; b then; c; d: d may go ahead of b and a, but not of c
        int[] chain = {1, 2, 4, 8};
        int[] back = {8, 4, 2, 1};
        for (int i = 0; i < 4; i++) {
            checks.due("abcd " + i, x.layer(0, i), chain[i]);
            checks.due("dcba " + i, x.layer(1, i), back[i]);
        }
        Checks.tell(x, "heap 2 is adadbc");
        checks.due("a and d", x.layer(2, 0), 9);
        checks.due("a and d again", x.layer(2, 1), 9);
        checks.due("b behind both a", x.layer(2, 2), 2);
        checks.due("c behind b and d", x.layer(2, 3), 4);
        checks.due("no more", x.layer(2, 4), SwapSteps.NONE);
    }

    /** "OUTSIDE: no such places." */
    private static void aheadOfPlacesThatThereAre() {
        for (int n = 0; n <= 24; n++) {
            SwapSteps x = new SwapSteps();
            Checks.setHeap(x, 1, "a".repeat(n));
            for (int i : new int[] {MIN, -1, 0, n - 1, n, 24, MAX}) {
                for (int j : new int[] {MIN, -1, 0, n - 1, n, 24, MAX}) {
                    boolean areThere = i >= 0 && i < n && j >= 0 && j < n;
                    checks.due("ahead " + i + " " + j + " of " + n, x.ahead(1, i, j), !areThere ? SwapSteps.OUTSIDE : i < j ? 1 : 0);
                }
            }
        }
        SwapSteps x = new SwapSteps();
        checks.due("no places in an empty heap", x.ahead(0, 0, 0), SwapSteps.OUTSIDE);
        checks.due("no such heap", x.ahead(4, 0, 0), SwapSteps.UNKNOWN);
    }

    /** "if i is less". */
    private static void aheadOfItselfAndBackward() {
        SwapSteps x = Checks.made("heap 0 is abcabcabcabcabcabcabcabc");
        for (int i = 0; i < 24; i += 23) {
            for (int j = 0; j < 24; j++) {
                checks.due("ahead " + i + " " + j, x.ahead(0, i, j), i < j ? 1 : 0);
                checks.due("ahead " + j + " " + i, x.ahead(0, j, i), j < i ? 1 : 0);
            }
        }
        for (int i = 0; i < 24; i++) {
            checks.due("ahead of itself " + i, x.ahead(0, i, i), 0);
        }
    }

    /** "and both LETTERS are alike or not FREE": each pair of letters, free and not. */
    private static void aheadOfAlikeAndBound() {
        for (int p = 0; p < 6; p++) {
            for (int q = 0; q < 6; q++) {
                SwapSteps x = Checks.made("letters 6");
                x.add(0, p);
                x.add(0, q);
                checks.due("bound", x.ahead(0, 0, 1), 1);
                x.free(p, q, true);
                checks.due("free, or alike", x.ahead(0, 0, 1), p == q ? 1 : 0);
            }
        }
    }

    /** "or there is a place between both": not one ahead of both nor one behind both. */
    private static void aheadByAPlaceBetween() {
        SwapSteps x = Checks.made("free ac;heap 0 is abc;heap 1 is bac;heap 2 is acb");
        checks.due("b between", x.ahead(0, 0, 2), 1);
        checks.due("b ahead of both", x.ahead(1, 1, 2), 0);
        checks.due("b behind both", x.ahead(2, 0, 1), 0);
        Checks.tell(x, "free bc");
        checks.due("b between is free with c", x.ahead(0, 0, 2), 0);
    }

    private static void aheadByManyPlacesBetween() {
        // only neighbours among the six letters are not free
        SwapSteps x = Checks.allFree(6);
        for (int p = 0; p < 5; p++) {
            x.free(p, p + 1, false);
        }
        Checks.setHeap(x, 0, "abcdef");
        checks.due("by four between", x.ahead(0, 0, 5), 1);
        Checks.setHeap(x, 0, "abdcef");
        checks.due("d ahead of c breaks the way", x.ahead(0, 0, 5), 0);
        checks.due("up to c", x.ahead(0, 0, 3), 1);
        checks.due("from d", x.ahead(0, 2, 5), 1);
        Checks.setHeap(x, 0, "a" + "ff".repeat(11) + "b");
        checks.due("a to b over 22 f", x.ahead(0, 0, 23), 1);
        checks.due("a to f", x.ahead(0, 0, 1), 0);
        checks.due("f to b", x.ahead(0, 22, 23), 0);
        Checks.setHeap(x, 0, "af" + "bcde".repeat(5) + "ef");
        checks.due("the last by way of b c d e", x.ahead(0, 0, 23), 1);
    }

    private static void beginsOfNone() {
        SwapSteps x = new SwapSteps();
        for (int h = 0; h <= 3; h++) {
            checks.due("beginnings: itself", x.begins(h, 0), 1);
            checks.due("ways: the row of none", x.begins(h, 1), 1);
            checks.due("wide: nothing", x.begins(h, 2), 0);
        }
    }

    private static void beginsOfWhat0To2() {
        SwapSteps x = Checks.made("free ac;heap 0 is acb");
        checks.due("what 0", x.begins(0, 0), 5);
        checks.due("what 1", x.begins(0, 1), 2);
        checks.due("what 2", x.begins(0, 2), 2);
        for (int what : new int[] {-1, 3, MIN, MAX}) {
            checks.due("what " + what, x.begins(0, what), SwapSteps.OUTSIDE);
            checks.due("what " + what + " of no heap", x.begins(4, what), SwapSteps.UNKNOWN);
        }
    }

    private static void beginningsOf1To24Letters() {
        for (int n = 1; n <= 24; n++) {
            SwapSteps x = new SwapSteps();
            Checks.setHeap(x, 0, "abcabcabcabcabcabcabcabc".substring(0, n));
            checks.due("nothing free: beginnings", x.begins(0, 0), n + 1);
            checks.due("nothing free: ways", x.begins(0, 1), 1);
            checks.due("nothing free: wide", x.begins(0, 2), 1);
            Checks.setHeap(x, 1, "a".repeat(n));
            checks.due("one letter: beginnings", x.begins(1, 0), n + 1);
            checks.due("one letter: ways", x.begins(1, 1), 1);
            checks.due("one letter: wide", x.begins(1, 2), 1);
            SwapSteps y = Checks.allFree(2);
            Checks.setHeap(y, 0, "a".repeat(n / 2) + "b".repeat(n - n / 2));
            checks.due("two free: beginnings", y.begins(0, 0), (n / 2 + 1) * (n - n / 2 + 1));
            checks.due("two free: ways", y.begins(0, 1), orders(n / 2, n - n / 2));
            checks.due("two free: wide", y.begins(0, 2), n == 1 ? 1 : 2);
        }
    }

    /** How many orders so many letters of each kind have, all of them free, modulo 1000000007. */
    private static long orders(int... counts) {
        BigInteger all = BigInteger.ONE;
        int placed = 0;
        for (int count : counts) {
            for (int i = 1; i <= count; i++) {
                placed++;
                all = all.multiply(BigInteger.valueOf(placed)).divide(BigInteger.valueOf(i));
            }
        }
        return all.mod(MODULUS).longValue();
    }

    /** "SPENT: more than 20000": 24 letters of six kinds, all free, have 15625, the most of all. */
    private static void mostBeginnings() {
        int[][] counts = {{4, 4, 4, 4, 4, 4}, {3, 4, 4, 4, 4, 5}, {24, 0, 0, 0, 0, 0}, {12, 12, 0, 0, 0, 0}, {19, 1, 1, 1, 1, 1},
            {1, 1, 1, 1, 1, 19}, {6, 6, 6, 6, 0, 0}, {0, 6, 6, 0, 6, 6}, {5, 5, 5, 5, 4, 0}, {4, 4, 4, 4, 4, 3}};
        for (int[] count : counts) {
            SwapSteps x = Checks.allFree(6);
            int beginnings = 1;
            int kinds = 0;
            for (int p = 0; p < 6; p++) {
                beginnings *= count[p] + 1;
                kinds += count[p] > 0 ? 1 : 0;
                for (int i = 0; i < count[p]; i++) {
                    x.add(0, p);
                }
            }
            checks.due("beginnings", x.begins(0, 0), beginnings);
            checks.due("ways", x.begins(0, 1), orders(count));
            checks.due("wide", x.begins(0, 2), kinds);
        }
    }

    /** "WAYS: how many ROWS are one with it, modulo 1000000007": some below it, some little and far beyond. */
    private static void waysModulo() {
        int[][] below = {{12, 12}, {7, 7, 7}, {3, 3, 3, 3, 3}, {3, 3, 3, 2, 2, 2}};
        int[][] beyond = {{7, 7, 8}, {8, 8, 8}, {3, 3, 3, 3, 2, 2}, {4, 4, 4, 4, 4, 4}};
        for (int[] count : below) {
            dueWays(count, true);
        }
        for (int[] count : beyond) {
            dueWays(count, false);
        }
    }

    private static void dueWays(int[] count, boolean isBelow) {
        SwapSteps x = Checks.allFree(count.length);
        BigInteger all = BigInteger.ONE;
        int placed = 0;
        for (int p = 0; p < count.length; p++) {
            for (int i = 1; i <= count[p]; i++) {
                placed++;
                all = all.multiply(BigInteger.valueOf(placed)).divide(BigInteger.valueOf(i));
                x.add(0, p);
            }
        }
        checks.due("ways of " + all, x.begins(0, 1), all.mod(MODULUS).longValue());
        checks.due(all + " is below the modulus", all.compareTo(MODULUS) < 0 ? 1 : 0, isBelow ? 1 : 0);
    }

    /** "WIDE: the most LETTERS": none to all six. */
    private static void wideFrom0To6() {
        for (int k = 1; k <= 6; k++) {
            SwapSteps x = Checks.allFree(k);
            for (int p = 0; p < k; p++) {
                checks.due("wide with " + p + " of " + k, x.begins(0, 2), p);
                x.add(0, p);
            }
            checks.due("wide with all of " + k, x.begins(0, 2), k);
            checks.due("ways", x.begins(0, 1), orders(new int[] {1, 1, 1, 1, 1, 1}, k));
        }
    }

    private static long orders(int[] counts, int kinds) {
        int[] first = new int[kinds];
        System.arraycopy(counts, 0, first, 0, kinds);
        return orders(first);
    }

    /** "of what some BEGINNING leaves": not of the whole alone, nor of layers alone. */
    private static void wideBehindTheFront() {
        SwapSteps x = Checks.allFree(6);
        for (int p = 0; p < 5; p++) {
            x.free(p, 5, false);
        }
        Checks.setHeap(x, 0, "fabcde");
        checks.due("one at the front, then five", x.begins(0, 2), 5);
        Checks.setHeap(x, 0, "abcdef");
        checks.due("five, then one", x.begins(0, 2), 5);
        Checks.setHeap(x, 0, "f".repeat(19) + "abcde");
        checks.due("five behind 19", x.begins(0, 2), 5);
        // behind a come b and c; d and e, one behind the other, have nothing to do with them
        SwapSteps y = Checks.made("letters 5;free bc;free ad;free bd;free cd;free ae;free be;free ce;heap 0 is abcde");
        checks.due("a's two beside d or e", y.begins(0, 2), 3);
        checks.due("its first layer has two", y.layer(0, 0), 9);
    }
}
