import java.math.BigInteger;

/** The bounds that the terms tell of TOGETHER, MANY and PLACE and promises 24 to 27, a test for each sentence. */
public final class OrderBoundsTest {
    private static final int MIN = Integer.MIN_VALUE;
    private static final int MAX = Integer.MAX_VALUE;
    private static final long MODULUS = 1000000007;
    private static final Checks checks = new Checks();

    public static void main(String[] args) {
        togetherOf0To6();
        togetherOfFewerLetters();
        togetherJustIfEachTwoAreFree();
        manyOf0To60();
        manyModulo();
        manyOfFreeOnes();
        ofLengths0To20();
        ofNoLength();
        ofFirstAndLastHeap();
        ofHeapsBeyondAnInt();
        ofLetterK();
        ofOutsideComesAheadOfNone();
        placeOfNone();
        placeOf20AtMost();
        placeOfFirstAndLast();
        placeModulo();
        placeIsToldBack();
        checks.finish();
    }

    private static long power(int base, int n) {
        return BigInteger.valueOf(base).modPow(BigInteger.valueOf(n), BigInteger.valueOf(MODULUS)).longValue();
    }

    /** n over k. */
    private static long over(int n, int k) {
        BigInteger all = BigInteger.ONE;
        for (int i = 1; i <= k; i++) {
            all = all.multiply(BigInteger.valueOf(n - k + i)).divide(BigInteger.valueOf(i));
        }
        return all.longValueExact();
    }

    /** "sets of n LETTERS (0 .. 6)"; "OUTSIDE". */
    private static void togetherOf0To6() {
        SwapSteps x = Checks.allFree(6);
        int[] want = {1, 6, 15, 20, 15, 6, 1};
        for (int n = 0; n <= 6; n++) {
            checks.due("together " + n, x.together(n), want[n]);
        }
        for (int n : new int[] {-1, 7, MIN, MAX}) {
            checks.due("together " + n, x.together(n), SwapSteps.OUTSIDE);
        }
        x.free(0, 5, false);
        int[] fewer = {1, 6, 14, 16, 9, 2, 0};
        for (int n = 0; n <= 6; n++) {
            checks.due("a and f do not go together: " + n, x.together(n), fewer[n]);
        }
    }

    private static void togetherOfFewerLetters() {
        for (int k = 1; k <= 6; k++) {
            SwapSteps x = Checks.allFree(k);
            SwapSteps y = Checks.made("letters " + k);
            for (int n = 0; n <= 6; n++) {
                checks.due(k + ": all free: " + n, x.together(n), n <= k ? over(k, n) : 0);
                checks.due(k + ": nothing free: " + n, y.together(n), n == 0 ? 1 : n == 1 ? k : 0);
            }
            checks.due(k + ": 7", x.together(7), SwapSteps.OUTSIDE);
        }
    }

    /** "sets of LETTERS of which each two are FREE": not those of which some two are. */
    private static void togetherJustIfEachTwoAreFree() {
        SwapSteps x = Checks.made("letters 4;free ab;free bc");
        checks.due("two", x.together(2), 2);
        checks.due("three", x.together(3), 0);
        x.free(0, 2, true);
        checks.due("three", x.together(3), 1);
        checks.due("four", x.together(4), 0);
    }

    /** "MANY of a length (0 .. 60)"; "OUTSIDE". */
    private static void manyOf0To60() {
        for (int k = 1; k <= 6; k++) {
            SwapSteps x = Checks.made("letters " + k);
            for (int n = 0; n <= 60; n++) {
                checks.due(k + ": many " + n, x.many(n), power(k, n));
            }
            for (int n : new int[] {-1, 61, MIN, MAX}) {
                checks.due(k + ": many " + n, x.many(n), SwapSteps.OUTSIDE);
            }
        }
    }

    /** "modulo 1000000007": the last power of two below it and the first beyond. */
    private static void manyModulo() {
        SwapSteps x = Checks.made("letters 2");
        checks.due("2 to the 29th", x.many(29), 536870912);
        checks.due("2 to the 30th", x.many(30), 1073741824 - MODULUS);
        SwapSteps y = Checks.made("letters 6");
        checks.due("6 to the 11th", y.many(11), 362797056);
        checks.due("6 to the 12th", y.many(12), 2176782336L - 2 * MODULUS);
    }

    private static void manyOfFreeOnes() {
        for (int k = 1; k <= 6; k++) {
            SwapSteps x = Checks.allFree(k);
            for (int n = 0; n <= 60; n++) {
                checks.due(k + " free: many " + n, x.many(n), over(n + k - 1, k - 1));
            }
        }
        // two parts of two: rows of a and b among rows of c and d
        SwapSteps x = Checks.made("letters 4;free ac;free ad;free bc;free bd");
        for (int n = 0; n <= 60; n++) {
            checks.due("two parts: many " + n, x.many(n), (n + 1) * power(2, n) % MODULUS);
        }
    }

    /** "OUTSIDE: n (0 .. 20), i, k below 0." */
    private static void ofLengths0To20() {
        SwapSteps x = new SwapSteps();
        for (int n = 1; n <= 20; n++) {
            checks.due("of " + n, x.of(n, 0, n - 1), 0);
            checks.due("of " + n, x.of(n, 2, n - 1), 2);
        }
        for (int n : new int[] {-1, 21, 22, 24, MIN, MAX}) {
            checks.due("of " + n, x.of(n, 0, 0), SwapSteps.OUTSIDE);
        }
    }

    /** The heap of no letters is there, but has no letter; there is no other one. */
    private static void ofNoLength() {
        SwapSteps x = new SwapSteps();
        checks.due("the first", x.of(0, 0, 0), SwapSteps.NONE);
        checks.due("no second", x.of(0, 1, 0), SwapSteps.NONE);
        checks.due("no such letter", x.of(0, 0, MAX), SwapSteps.NONE);
        checks.due("i -1", x.of(0, -1, 0), SwapSteps.OUTSIDE);
        checks.due("k -1", x.of(0, 0, -1), SwapSteps.OUTSIDE);
    }

    /** "HEAP i (.. from 0) of length n; NONE: there is no such": the first, the last, one more. */
    private static void ofFirstAndLastHeap() {
        for (int k = 1; k <= 6; k++) {
            SwapSteps x = Checks.allFree(k);
            SwapSteps y = Checks.made("letters " + k);
            for (int n = 1; n <= 20; n++) {
                int last = (int) over(n + k - 1, k - 1) - 1;
                dueRow(x, n, 0, "a".repeat(n));
                dueRow(x, n, last, ("" + (char) ('a' + k - 1)).repeat(n));
                checks.due("no heap " + last + " and one of " + n, x.of(n, last + 1, 0), SwapSteps.NONE);
                checks.due("no heap " + last + " and one of " + n, x.of(n, last + 1, n - 1), SwapSteps.NONE);
                if (Math.pow(k, n) < MAX) {
                    int lastOfAll = (int) Math.pow(k, n) - 1;
                    checks.due("the last of all rows", y.of(n, lastOfAll, n - 1), k - 1);
                    checks.due("no more", y.of(n, lastOfAll + 1, n - 1), SwapSteps.NONE);
                    checks.due("no such", y.of(n, MAX, 0), lastOfAll < MAX ? SwapSteps.NONE : k - 1);
                }
            }
        }
    }

    /** The first and the last letter of a heap: a call of its own for each. */
    private static void dueRow(SwapSteps x, int n, int i, String row) {
        checks.due("heap " + i + " of " + n + ": first", x.of(n, i, 0), row.charAt(0) - 'a');
        checks.due("heap " + i + " of " + n + ": last", x.of(n, i, n - 1), row.charAt(n - 1) - 'a');
    }

    private static void ofHeapsBeyondAnInt() {
        for (int k = 3; k <= 6; k++) {
            SwapSteps x = Checks.made("letters " + k);
            for (int n = 19; n <= 20; n++) {
                int rest = MAX;
                for (int at = n - 1; at >= 0; at--) {
                    checks.due(k + " letters: the greatest i", x.of(n, MAX, at), k == 3 && n < 20 ? SwapSteps.NONE : rest % k);
                    rest /= k;
                }
            }
        }
        SwapSteps x = Checks.made("letters 6");
        checks.due("6 to the 11th are fewer", x.of(11, 362797055, 10), 5);
        checks.due("6 to the 11th are fewer", x.of(11, 362797056, 10), SwapSteps.NONE);
        checks.due("6 to the 12th are more", x.of(12, MAX, 11), MAX % 6);
    }

    /** "LETTER k (.. from 0)". */
    private static void ofLetterK() {
        SwapSteps x = Checks.made("letters 6");
        // the digits of 123450 by six
        int[] digits = {2, 3, 5, 1, 3, 1, 0};
        int number = 0;
        for (int digit : digits) {
            number = number * 6 + digit;
        }
        for (int k = 0; k < 7; k++) {
            checks.due("letter " + k, x.of(7, number, k), digits[k]);
        }
        for (int k : new int[] {7, 8, 20, 24, MAX}) {
            checks.due("letter " + k, x.of(7, number, k), SwapSteps.NONE);
        }
        for (int n = 1; n <= 20; n++) {
            checks.due("the last of " + n, x.of(n, 0, n - 1), 0);
            checks.due("one more of " + n, x.of(n, 0, n), SwapSteps.NONE);
        }
        checks.due("k -1", x.of(7, 0, -1), SwapSteps.OUTSIDE);
        checks.due("k least", x.of(7, 0, MIN), SwapSteps.OUTSIDE);
    }

    private static void ofOutsideComesAheadOfNone() {
        SwapSteps x = new SwapSteps();
        checks.due("n, no such heap, no such letter", x.of(21, MAX, MAX), SwapSteps.OUTSIDE);
        checks.due("i, no such letter", x.of(2, -1, 2), SwapSteps.OUTSIDE);
        checks.due("i least, no such letter", x.of(2, MIN, MAX), SwapSteps.OUTSIDE);
        checks.due("k, no such heap", x.of(2, 9, -1), SwapSteps.OUTSIDE);
        checks.due("neither heap nor letter", x.of(2, 9, 2), SwapSteps.NONE);
        checks.due("no such letter", x.of(2, 8, 2), SwapSteps.NONE);
        checks.due("no such heap", x.of(2, 9, 0), SwapSteps.NONE);
        checks.due("the last", x.of(2, 8, 1), 2);
    }

    private static void placeOfNone() {
        SwapSteps x = new SwapSteps();
        for (int h = 0; h <= 3; h++) {
            checks.due("the only one of its length", x.place(h), 0);
        }
        for (int h : new int[] {-1, 4, MIN, MAX}) {
            checks.due("place of heap " + h, x.place(h), SwapSteps.UNKNOWN);
        }
    }

    /** "OUTSIDE: more than 20 LETTERS." */
    private static void placeOf20AtMost() {
        SwapSteps x = new SwapSteps();
        long ofB = 0;
        for (int n = 1; n <= 24; n++) {
            x.add(0, 0);
            x.add(1, 1);
            ofB = 3 * ofB + 1;
            checks.due("place of a row of " + n + " a", x.place(0), n <= 20 ? 0 : SwapSteps.OUTSIDE);
            checks.due("place of a row of " + n + " b", x.place(1), n <= 20 ? ofB % MODULUS : SwapSteps.OUTSIDE);
        }
    }

    private static void placeOfFirstAndLast() {
        for (int k = 1; k <= 6; k++) {
            SwapSteps x = Checks.allFree(k);
            SwapSteps y = Checks.made("letters " + k);
            for (int n = 1; n <= 20; n++) {
                x.add(0, 0);
                x.add(1, k - 1);
                y.add(0, 0);
                y.add(1, k - 1);
                checks.due("all free: the first of " + n, x.place(0), 0);
                checks.due("all free: the last of " + n, x.place(1), over(n + k - 1, k - 1) - 1);
                checks.due("nothing free: the first of " + n, y.place(0), 0);
                checks.due("nothing free: the last of " + n, y.place(1), (power(k, n) + MODULUS - 1) % MODULUS);
            }
        }
    }

    /** "(modulo 1000000007)": the place ahead of it, at it and behind it. */
    private static void placeModulo() {
        for (int k = 2; k <= 6; k++) {
            for (long place = MODULUS - 2; place <= MODULUS + 2; place++) {
                for (int times = 1; times <= 3; times++) {
                    SwapSteps x = Checks.made("letters " + k);
                    if (setByDigits(x, k, 20, place * times)) {
                        checks.due(k + ": place " + place * times, x.place(0), place * times % MODULUS);
                    }
                }
            }
        }
        SwapSteps x = Checks.made("letters 6");
        checks.due("the place at it", setByDigits(x, 6, 12, MODULUS) ? x.place(0) : -1, 0);
        checks.due("the place ahead of it", setByDigits(x, 6, 12, MODULUS - 1) ? x.place(0) : -1, MODULUS - 1);
        checks.due("twice", setByDigits(x, 6, 12, 2 * MODULUS) ? x.place(0) : -1, 0);
    }

    /** Heap 0 becomes the row of n letters that is this place's number by so many letters, if there is one. */
    private static boolean setByDigits(SwapSteps x, int letters, int n, long place) {
        StringBuilder row = new StringBuilder();
        for (int i = 0; i < n; i++) {
            row.insert(0, (char) ('a' + place % letters));
            place /= letters;
        }
        Checks.setHeap(x, 0, row.toString());
        return place == 0;
    }

    /** "told in order, their places told back": by the least row, whichever row tells the heap. */
    private static void placeIsToldBack() {
        String[] pairs = {"letters 3;free ac", "letters 4;free ac;free bd;free ad", "letters 6;free af;free bf;free ab;free ce"};
        for (String text : pairs) {
            for (int n = 1; n <= 20; n += 19) {
                SwapSteps x = Checks.made(text);
                int step = n == 1 ? 1 : 99999989;
                for (int i = 0; i >= 0 && x.of(n, i, 0) >= 0 && i < 6 * (long) step; i += step) {
                    x.clear(0);
                    for (int k = 0; k < n; k++) {
                        x.add(0, x.of(n, i, k));
                    }
                    checks.due(text + ": place of heap " + i, x.place(0), i);
                }
            }
        }
        SwapSteps x = Checks.made("free ac;heap 0 is ca;heap 1 is ac;heap 2 is ba");
        checks.due("ca is ac", x.place(0), 2);
        checks.due("ac", x.place(1), 2);
        checks.due("ba", x.place(2), 3);
    }
}
