/** The bounds that the terms tell of LETTERS and HEAPS and promises 1, 6 to 11 and 33, a test for each sentence. */
public final class HeapBoundsTest {
    private static final int MIN = Integer.MIN_VALUE;
    private static final int MAX = Integer.MAX_VALUE;
    private static final int[] ABOUT_LETTERS = {MIN, -1, 0, 1, 2, 3, 4, 5, 6, 7, 31, 32, 33, MAX};
    private static final int[] ABOUT_HEAPS = {MIN, -1, 0, 1, 2, 3, 4, 5, MAX};
    private static final String ABC8 = "abcabcabcabcabcabcabcabc";
    private static final Checks checks = new Checks();

    public static void main(String[] args) {
        theConstants();
        aNewObject();
        eachObjectIsItsOwn();
        freeOfLettersThatThereAre();
        freeAlsoOneAndItself();
        freeTellsWhetherTheyWere();
        addOfLettersThatThereAre();
        addOfHeaps0To3();
        addOf24AtMost();
        clearOfNoneAndAll();
        letterFrom0();
        letterOfWhat0And1();
        leastRowsOfFreeAndBound();
        sameOfEmptyAndFull();
        sameOfOneLetterMore();
        apartByThisNumber();
        apartOfLettersByThemselves();
        apartIsNoneJustIfSame();
        countOfWhat0To6();
        countsFromLeastToMost();
        anObjectOf512Calls();
        checks.finish();
    }

    private static boolean isLetter(int p, int letters) {
        return p >= 0 && p < letters;
    }

    private static boolean isHeap(int h) {
        return h >= 0 && h <= 3;
    }

    /** "NONE = -1, UNKNOWN = -2, OUTSIDE = -3, NOT = -4, FULL = -5, SPENT = -6" */
    private static void theConstants() {
        checks.due("NONE", SwapSteps.NONE, -1);
        checks.due("UNKNOWN", SwapSteps.UNKNOWN, -2);
        checks.due("OUTSIDE", SwapSteps.OUTSIDE, -3);
        checks.due("NOT", SwapSteps.NOT, -4);
        checks.due("FULL", SwapSteps.FULL, -5);
        checks.due("SPENT", SwapSteps.SPENT, -6);
    }

    /** "Three LETTERS, nothing FREE, empty HEAPS." */
    private static void aNewObject() {
        SwapSteps x = new SwapSteps();
        checks.due("letters", x.count(0), 3);
        for (int what = 1; what <= 6; what++) {
            checks.due("count " + what, x.count(what), 0);
        }
        for (int h = 0; h <= 3; h++) {
            checks.due("no letter in heap " + h, x.letter(h, 0, 0), SwapSteps.NONE);
            checks.due("no letter in heap " + h, x.letter(h, 0, 1), SwapSteps.NONE);
            checks.due("clear of heap " + h, x.clear(h), 0);
        }
        for (int p = 0; p < 3; p++) {
            for (int q = 0; q < 3; q++) {
                checks.due("free " + p + q, x.free(p, q, false), p == q ? SwapSteps.UNKNOWN : 0);
            }
        }
        checks.due("c is there", x.add(0, 2), 1);
        checks.due("d is not", x.add(0, 3), SwapSteps.UNKNOWN);
        checks.due("the text is empty", x.erase(), 0);
    }

    private static void eachObjectIsItsOwn() {
        SwapSteps x = new SwapSteps();
        SwapSteps y = new SwapSteps();
        Checks.tell(x, "letters 5;free ab;heap 0 is e");
        x.reader(2, 3);
        Checks.write(x, "free");
        checks.due("another's letters", y.count(0), 3);
        checks.due("another's pairs", y.count(1), 0);
        checks.due("another's text", y.count(2), 0);
        checks.due("another's heap", y.count(3), 0);
        checks.due("another's reader", y.taken(0), 0);
    }

    /** "LETTERS are 0 .. k - 1 (1 .. 6)": free of each two, from one letter to six. */
    private static void freeOfLettersThatThereAre() {
        for (int k = 1; k <= 6; k++) {
            for (int p : ABOUT_LETTERS) {
                SwapSteps x = Checks.made("letters " + k);
                int pairs = 0;
                for (int q : ABOUT_LETTERS) {
                    boolean areThere = isLetter(p, k) && isLetter(q, k) && p != q;
                    checks.due(k + ": free " + p + " " + q, x.free(p, q, true), areThere ? 0 : SwapSteps.UNKNOWN);
                    checks.due(k + ": free again " + p + " " + q, x.free(q, p, true), areThere ? 1 : SwapSteps.UNKNOWN);
                    pairs += areThere ? 1 : 0;
                }
                checks.due(k + ": pairs of " + p, x.count(1), pairs);
            }
        }
    }

    /** "UNKNOWN: also one and itself." */
    private static void freeAlsoOneAndItself() {
        SwapSteps x = Checks.allFree(6);
        for (int p = 0; p < 6; p++) {
            checks.due("free " + p + " and itself", x.free(p, p, true), SwapSteps.UNKNOWN);
            checks.due("bound " + p + " and itself", x.free(p, p, false), SwapSteps.UNKNOWN);
        }
        checks.due("as many pairs", x.count(1), 15);
    }

    /** "whether they were: 1, 0": made free or not, once and again, in both orders. */
    private static void freeTellsWhetherTheyWere() {
        for (int p = 0; p < 6; p++) {
            for (int q = 0; q < 6; q++) {
                if (p != q) {
                    SwapSteps x = Checks.made("letters 6");
                    checks.due("bound at first", x.free(p, q, false), 0);
                    checks.due("still bound", x.free(q, p, true), 0);
                    checks.due("free", x.free(q, p, true), 1);
                    checks.due("one pair", x.count(1), 1);
                    checks.due("still free", x.free(p, q, false), 1);
                    checks.due("bound", x.free(p, q, false), 0);
                    checks.due("no pair", x.count(1), 0);
                }
            }
        }
    }

    private static void addOfLettersThatThereAre() {
        for (int k = 1; k <= 6; k++) {
            SwapSteps x = Checks.made("letters " + k);
            int size = 0;
            for (int p : ABOUT_LETTERS) {
                size += isLetter(p, k) ? 1 : 0;
                checks.due(k + ": add " + p, x.add(3, p), isLetter(p, k) ? size : SwapSteps.UNKNOWN);
            }
            checks.due(k + ": letters of the heap", x.count(6), k);
        }
    }

    /** "HEAPS 0 .. 3 are held." */
    private static void addOfHeaps0To3() {
        SwapSteps x = new SwapSteps();
        for (int h : ABOUT_HEAPS) {
            checks.due("add to " + h, x.add(h, 1), isHeap(h) ? 1 : SwapSteps.UNKNOWN);
            checks.due("clear " + h, x.clear(h), isHeap(h) ? 1 : SwapSteps.UNKNOWN);
            checks.due("letter of " + h, x.letter(h, 0, 0), isHeap(h) ? SwapSteps.NONE : SwapSteps.UNKNOWN);
        }
    }

    /** "a ROW of 24 LETTERS at most"; "FULL". */
    private static void addOf24AtMost() {
        for (int h = 0; h <= 3; h++) {
            SwapSteps x = new SwapSteps();
            for (int i = 1; i <= 24; i++) {
                checks.due("add", x.add(h, i % 3), i);
            }
            for (int p = 0; p < 3; p++) {
                checks.due("the 25th", x.add(h, p), SwapSteps.FULL);
            }
            checks.due("no such letter", x.add(h, 3), SwapSteps.UNKNOWN);
            checks.dueRow("the 24", x, h, "bcabcabcabcabcabcabcabca");
            for (int other = 0; other <= 3; other++) {
                checks.due("the others stay empty", x.count(3 + other), other == h ? 24 : 0);
            }
            checks.due("clear", x.clear(h), 24);
            checks.due("the first again", x.add(h, 0), 1);
        }
    }

    /** "A HEAP is empty: how many LETTERS it had." */
    private static void clearOfNoneAndAll() {
        SwapSteps x = Checks.made("heap 0 is a;heap 1 is " + ABC8 + ";heap 2 is ab");
        checks.due("clear of 24", x.clear(1), 24);
        checks.due("clear of one", x.clear(0), 1);
        checks.due("clear of none", x.clear(3), 0);
        checks.due("the other stays", x.count(5), 2);
        for (int h = 0; h <= 3; h++) {
            x.clear(h);
            checks.due("empty", x.letter(h, 0, 0), SwapSteps.NONE);
            checks.due("clear again", x.clear(h), 0);
        }
    }

    /** "LETTER i (from 0) ..; NONE"; "OUTSIDE: i below 0". */
    private static void letterFrom0() {
        for (int n = 0; n <= 24; n++) {
            for (int what = 0; what <= 1; what++) {
                SwapSteps x = new SwapSteps();
                Checks.setHeap(x, 2, ABC8.substring(0, n));
                for (int i = 0; i <= 25; i++) {
                    checks.due("letter " + i + " of " + n, x.letter(2, i, what), i < n ? i % 3 : SwapSteps.NONE);
                }
                checks.due("letter -1 of " + n, x.letter(2, -1, what), SwapSteps.OUTSIDE);
                checks.due("the least of " + n, x.letter(2, MIN, what), SwapSteps.OUTSIDE);
                checks.due("the greatest of " + n, x.letter(2, MAX, what), SwapSteps.NONE);
            }
        }
        // what a heap had behind its end is no letter of it
        SwapSteps x = Checks.made("heap 0 is abc");
        Checks.tell(x, "heap 0 is b");
        checks.due("the only one", x.letter(0, 0, 0), 1);
        checks.due("the old one", x.letter(0, 1, 0), SwapSteps.NONE);
        checks.due("the old one", x.letter(0, 1, 1), SwapSteps.NONE);
    }

    /** "of the ROW as it is told (what 0), of the LEAST ROW (1)"; "OUTSIDE: .. what". */
    private static void letterOfWhat0And1() {
        SwapSteps x = Checks.made("free ab;heap 0 is ba");
        checks.due("what 0", x.letter(0, 0, 0), 1);
        checks.due("what 1", x.letter(0, 0, 1), 0);
        for (int what : new int[] {-1, 2, MIN, MAX}) {
            checks.due("what " + what, x.letter(0, 0, what), SwapSteps.OUTSIDE);
            checks.due("what " + what + " of no letter", x.letter(0, 2, what), SwapSteps.OUTSIDE);
            checks.due("what " + what + " of no heap", x.letter(4, 0, what), SwapSteps.UNKNOWN);
        }
        checks.due("outside ahead of none", x.letter(3, -1, 0), SwapSteps.OUTSIDE);
    }

    /** The row itself, if nothing is free; sorted, if all is; a letter of full rows comes all the way. */
    private static void leastRowsOfFreeAndBound() {
        SwapSteps x = Checks.made("letters 6;heap 0 is fedcbafedcbafedcbafedcba");
        checks.due("nothing is free", Checks.row(x, 0, 1).equals("fedcbafedcbafedcbafedcba") ? 1 : 0, 1);
        SwapSteps y = Checks.allFree(6);
        Checks.tell(y, "heap 0 is fedcbafedcbafedcbafedcba");
        checks.due("all is free", Checks.row(y, 0, 1).equals("aaaabbbbccccddddeeeeffff") ? 1 : 0, 1);
        SwapSteps z = Checks.made("letters 6;free af;heap 0 is " + "f".repeat(23) + "a");
        checks.due("all the way", z.letter(0, 0, 1), 0);
        checks.due("the row as told", z.letter(0, 23, 0), 0);
        checks.due("the last", z.letter(0, 23, 1), 5);
        z.free(5, 0, false);
        checks.due("not free any more", z.letter(0, 0, 1), 5);
    }

    /** "Whether two HEAPS are one: 1, 0." */
    private static void sameOfEmptyAndFull() {
        SwapSteps x = Checks.made("free ac;heap 1 is " + "ac".repeat(12) + ";heap 2 is " + "ca".repeat(12));
        checks.due("two empty ones", x.same(0, 3), 1);
        checks.due("an empty one and itself", x.same(0, 0), 1);
        checks.due("an empty one and a full one", x.same(0, 1), 0);
        checks.due("a full one and an empty one", x.same(1, 0), 0);
        checks.due("two full ones", x.same(1, 2), 1);
        checks.due("a full one and itself", x.same(2, 2), 1);
        x.free(0, 2, false);
        checks.due("two full ones, nothing free", x.same(1, 2), 0);
        for (int h : ABOUT_HEAPS) {
            checks.due("same of " + h, x.same(h, h), isHeap(h) ? 1 : SwapSteps.UNKNOWN);
            checks.due("apart of " + h, x.apart(h, h), isHeap(h) ? SwapSteps.NONE : SwapSteps.UNKNOWN);
        }
    }

    private static void sameOfOneLetterMore() {
        for (int n = 0; n < 24; n++) {
            SwapSteps x = Checks.allFree(3);
            Checks.setHeap(x, 0, ABC8.substring(0, n));
            Checks.setHeap(x, 1, ABC8.substring(0, n + 1));
            int more = n % 3;
            checks.due("one more of " + n, x.same(0, 1), 0);
            checks.due("one fewer of " + n, x.same(1, 0), 0);
            checks.due("at its look", x.apart(0, 1), 9 * more);
            checks.due("at its look", x.apart(1, 0), 9 * more);
        }
    }

    /** "The first pair of LETTERS (8 times the lesser, and the greater, maybe the same; by this number)". */
    private static void apartByThisNumber() {
        SwapSteps x = Checks.made("letters 6");
        for (int p = 0; p < 6; p++) {
            for (int q = p + 1; q < 6; q++) {
                Checks.setHeap(x, 0, "" + (char) ('a' + p) + (char) ('a' + q));
                Checks.setHeap(x, 1, "" + (char) ('a' + q) + (char) ('a' + p));
                checks.due("the order of " + p + q, x.apart(0, 1), 8 * p + q);
                x.free(p, q, true);
                checks.due(p + " and " + q + " are free", x.apart(0, 1), SwapSteps.NONE);
                x.free(p, q, false);
            }
        }
        // all orders are turned about; those that are free are passed over
        SwapSteps y = Checks.made("letters 6;heap 0 is abcdef;heap 1 is fedcba");
        for (int p = 0; p < 6; p++) {
            for (int q = p + 1; q < 6; q++) {
                checks.due("the first that is not free", y.apart(0, 1), 8 * p + q);
                checks.due("not one", y.same(0, 1), 0);
                y.free(q, p, true);
            }
        }
        checks.due("all are free", y.apart(0, 1), SwapSteps.NONE);
        checks.due("one", y.same(0, 1), 1);
    }

    /** "that is not FREE (those of one LETTER, too)": from the least, 0, to the greatest, 45. */
    private static void apartOfLettersByThemselves() {
        for (int p = 0; p < 6; p++) {
            SwapSteps x = Checks.allFree(6);
            x.add(1, p);
            checks.due("none and one", x.apart(0, 1), 9 * p);
            checks.due("one and none", x.apart(1, 0), 9 * p);
            Checks.setHeap(x, 2, "f".repeat(23));
            Checks.setHeap(x, 3, "f".repeat(23));
            x.add(3, p);
            checks.due("24 and 23", x.apart(3, 2), 9 * p);
        }
        // the look at a and b is the first that tells them apart, though b alone does, too
        SwapSteps x = Checks.made("letters 2;heap 0 is abb;heap 1 is ab");
        checks.due("a and b", x.apart(0, 1), 1);
        x.free(0, 1, true);
        checks.due("b by itself", x.apart(0, 1), 9);
        Checks.setHeap(x, 0, "ab");
        Checks.setHeap(x, 1, "aab");
        checks.due("a by itself", x.apart(0, 1), 0);
    }

    /** "NONE: they are one." */
    private static void apartIsNoneJustIfSame() {
        String[] rows = {"", "a", "c", "ac", "ca", "abc", "acb", "cab", "acac", "caca", "bb"};
        for (String a : rows) {
            for (String b : rows) {
                SwapSteps x = new SwapSteps();
                x.free(0, 2, true);
                Checks.setHeap(x, 0, a);
                Checks.setHeap(x, 1, b);
                checks.due(a + " and " + b, x.apart(0, 1) == SwapSteps.NONE ? 1 : 0, x.same(0, 1));
                checks.due(a + " and " + b, x.same(0, 1), Checks.row(x, 0, 1).equals(Checks.row(x, 1, 1)) ? 1 : 0);
            }
        }
    }

    /** "0 LETTERS, 1 FREE pairs, 2 bytes of THE TEXT, 3 .. 6 LETTERS of HEAPS 0 .. 3. OUTSIDE." */
    private static void countOfWhat0To6() {
        SwapSteps x = Checks.made("letters 5;free ab;free cd;heap 0 is a;heap 2 is abc;heap 3 is abcd");
        x.write(0, 7);
        int[] want = {5, 2, 7, 1, 0, 3, 4};
        for (int what = 0; what <= 6; what++) {
            checks.due("count " + what, x.count(what), want[what]);
        }
        for (int what : new int[] {-1, -2, -3, -4, 7, 8, MIN, MIN + 1, MIN + 2, MIN + 3, MAX}) {
            checks.due("count " + what, x.count(what), SwapSteps.OUTSIDE);
        }
    }

    private static void countsFromLeastToMost() {
        for (int k = 1; k <= 6; k++) {
            SwapSteps x = Checks.allFree(k);
            checks.due("letters", x.count(0), k);
            checks.due("pairs of " + k, x.count(1), k * (k - 1) / 2);
        }
        SwapSteps x = new SwapSteps();
        for (int n = 1; n <= 160; n++) {
            x.write(0, 1);
            checks.due("bytes", x.count(2), n);
        }
        SwapSteps y = new SwapSteps();
        for (int h = 0; h <= 3; h++) {
            for (int n = 1; n <= 24; n++) {
                y.add(h, 0);
                checks.due("letters of heap " + h, y.count(3 + h), n);
            }
        }
    }

    /** "An object is used for at most 512 calls after it has been made": the last of them, all dear ones ahead. */
    private static void anObjectOf512Calls() {
        SwapSteps x = new SwapSteps();
        Checks.setHeap(x, 0, "abcabca");
        int calls = 8;
        while (calls < 511) {
            int kind = calls % 5;
            int want = kind == 0 ? 7 : kind == 1 ? 8 : kind == 2 ? 1 : kind == 3 ? 0 : 420;
            checks.due("call " + calls, dearCall(x, kind), want);
            calls++;
        }
        checks.due("the 512th call", x.add(0, 1), 8);
    }

    private static int dearCall(SwapSteps x, int kind) {
        switch (kind) {
            case 0: return x.circle(0);
            case 1: return x.begins(0, 0);
            case 2: return x.begins(0, 2);
            case 3: return x.taken(60);
            default: return x.place(0);
        }
    }
}
