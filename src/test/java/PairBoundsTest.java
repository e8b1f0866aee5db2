/** The bounds that the terms tell of heaps of heaps and promises 15 to 23, a test for each sentence. */
public final class PairBoundsTest {
    private static final int MIN = Integer.MIN_VALUE;
    private static final int MAX = Integer.MAX_VALUE;
    private static final String ABC8 = "abcabcabcabcabcabcabcabc";
    private static final Checks checks = new Checks();

    public static void main(String[] args) {
        joinOf24AtMost();
        joinWithNone();
        joinIsToldByItsLeastRow();
        leftOfNoneAndAll();
        leftOfOneLetterMore();
        leftIsNotOfAnotherFront();
        sharedOfNoneAndAll();
        sharedIsTheLongest();
        bothOf24AtMost();
        bothWithNoneAndItself();
        bothIsNoneIfOneStandsInTheWay();
        madeOfAndIntoEachHeap();
        mirrorOf0To24();
        partFromMinus1();
        partsOf0To6();
        partsByWayOfOthersOfIt();
        rootOfNone();
        rootOf1To24();
        rootIsTheGreatest();
        circleOfNone();
        circleOf12AtMost();
        circleOfTheMost();
        turnedOf12AtMost();
        turnedToAnotherLength();
        turnedToItselfAndToAll();
        checks.finish();
    }

    private static SwapSteps ofTwo(String a, String b) {
        SwapSteps x = new SwapSteps();
        x.free(0, 2, true);
        Checks.setHeap(x, 0, a);
        Checks.setHeap(x, 1, b);
        return x;
    }

    /** "FULL: more than 24." */
    private static void joinOf24AtMost() {
        for (int n = 0; n <= 24; n++) {
            SwapSteps x = ofTwo(ABC8.substring(0, n), ABC8.substring(n));
            Checks.setHeap(x, 2, "bb");
            checks.due(n + " and " + (24 - n), x.join(0, 1, 2), 24);
            checks.due("24", x.count(5), 24);
            x.add(0, 1);
            checks.due("25", x.join(0, 1, 2), n == 24 ? 24 : SwapSteps.FULL);
            SwapSteps y = ofTwo(ABC8.substring(0, n), ABC8.substring(n));
            Checks.setHeap(y, 2, "bb");
            y.add(1, 1);
            checks.due("25", y.join(0, 1, 2), n == 0 ? 24 : SwapSteps.FULL);
            checks.due("c stays", y.count(5), n == 0 ? 24 : 2);
        }
        SwapSteps x = ofTwo(ABC8, ABC8);
        checks.due("24 and 24", x.join(0, 1, 2), SwapSteps.FULL);
        checks.due("24 and one", x.add(2, 0) == 1 ? x.join(0, 2, 1) : 0, SwapSteps.FULL);
        checks.due("one and 24", x.join(2, 0, 1), SwapSteps.FULL);
        checks.due("24 and none", x.clear(2) == 1 ? x.join(0, 2, 3) : 0, 24);
        checks.due("none and 24", x.join(2, 0, 3), 24);
    }

    private static void joinWithNone() {
        SwapSteps x = new SwapSteps();
        checks.due("none and none", x.join(0, 1, 2), 0);
        checks.due("none and none, itself", x.join(3, 3, 3), 0);
        Checks.setHeap(x, 2, "abc");
        checks.due("c had letters", x.join(0, 1, 2), 0);
        checks.due("c has none", x.count(5), 0);
    }

    private static void joinIsToldByItsLeastRow() {
        SwapSteps x = ofTwo("c", "a");
        checks.due("c and a", x.join(0, 1, 2), 2);
        checks.dueRow("c and a", x, 2, "ac");
        x.join(0, 0, 0);
        x.join(0, 1, 0);
        checks.dueRow("cc and a", x, 0, "acc");
        checks.dueRow("a stays", x, 1, "a");
        Checks.tell(x, "heap 3 is ca;heap 2 is none");
        checks.due("ca and none", x.join(3, 2, 3), 2);
        checks.dueRow("ca and none", x, 3, "ac");
    }

    private static void leftOfNoneAndAll() {
        SwapSteps x = ofTwo("", ABC8);
        checks.due("none off 24", x.left(0, 1, 2), 24);
        checks.due("none off none", x.left(0, 3, 3), 0);
        checks.due("24 off 24", x.left(1, 1, 3), 0);
        checks.due("24 off none", x.left(1, 0, 3), SwapSteps.NOT);
        checks.due("one off none", x.add(3, 0) == 1 ? x.left(3, 0, 2) : 0, SwapSteps.NOT);
        checks.due("c stays", x.count(5), 24);
        SwapSteps y = ofTwo("ca", "ac");
        checks.due("all by another row", y.left(0, 1, 2), 0);
        checks.due("all by another row", y.left(1, 0, 2), 0);
    }

    private static void leftOfOneLetterMore() {
        for (int n = 0; n <= 24; n++) {
            SwapSteps x = ofTwo(ABC8.substring(0, n), ABC8);
            checks.due(n + " off 24", x.left(0, 1, 2), 24 - n);
            checks.due("left of it", x.count(5), 24 - n);
            if (n < 24) {
                checks.due("24 off " + n, x.left(1, 0, 3), SwapSteps.NOT);
                SwapSteps y = ofTwo(ABC8.substring(0, n) + "abc".charAt((n + 1) % 3), ABC8);
                // where c is next, an a that is free with it may come first, if there is one
                boolean isFree = n % 3 == 2 && n < 23;
                checks.due("another letter at " + n, y.left(0, 1, 2), isFree ? 23 - n : SwapSteps.NOT);
            }
        }
    }

    /** "NOT: a does not BEGIN b." */
    private static void leftIsNotOfAnotherFront() {
        String[][] not = {{"b", "ab"}, {"ba", "ab"}, {"aa", "a"}, {"cb", "abc"}, {"ab", "acb"}, {"c", "bc"}, {"acb", "abc"}};
        for (String[] pair : not) {
            checks.due(pair[0] + " off " + pair[1], ofTwo(pair[0], pair[1]).left(0, 1, 2), SwapSteps.NOT);
        }
        String[][] left = {{"c", "ac", "a"}, {"c", "aacb", "aab"}, {"ca", "acb", "b"}, {"aca", "aacbac", "bac"}, {"a", "aca", "ac"}};
        for (String[] pair : left) {
            SwapSteps x = ofTwo(pair[0], pair[1]);
            checks.due(pair[0] + " off " + pair[1], x.left(0, 1, 2), pair[2].length());
            checks.dueRow(pair[0] + " off " + pair[1], x, 2, pair[2]);
        }
    }

    private static void sharedOfNoneAndAll() {
        SwapSteps x = ofTwo("", ABC8);
        Checks.setHeap(x, 2, "ccc");
        checks.due("24 and 24", x.shared(1, 1, 3), 24);
        checks.dueRow("24 and 24", x, 3, "ab" + "acb".repeat(7) + "c");
        checks.due("none and 24", x.shared(0, 1, 3), 0);
        checks.due("c has none", x.count(6), 0);
        checks.due("24 and none", x.shared(1, 0, 2), 0);
        checks.due("c has none", x.count(5), 0);
        checks.due("none and none", x.shared(0, 0, 0), 0);
        for (int n = 0; n <= 24; n++) {
            SwapSteps y = ofTwo(ABC8.substring(0, n), ABC8);
            checks.due(n + " and 24", y.shared(0, 1, 2), n);
            checks.due("24 and " + n, y.shared(1, 0, 0), n);
        }
    }

    private static void sharedIsTheLongest() {
        String[][] pairs = {{"a", "c", ""}, {"ab", "ba", ""}, {"ac", "ca", "ac"}, {"acb", "cb", "c"}, {"aacb", "caba", "ac"}, {"aacb", "caab", "aacb"},
            {"acba", "cabc", "acb"}, {"cccab", "aabcc", "a"}, {"ccca", "aacc", "acc"}};
        for (String[] pair : pairs) {
            SwapSteps x = ofTwo(pair[0], pair[1]);
            checks.due(pair[0] + " and " + pair[1], x.shared(0, 1, 2), pair[2].length());
            checks.dueRow(pair[0] + " and " + pair[1], x, 2, pair[2]);
            checks.due(pair[1] + " and " + pair[0], x.shared(1, 0, 3), pair[2].length());
        }
    }

    /** "NOT: there is none; FULL: more than 24." */
    private static void bothOf24AtMost() {
        for (int n = 0; n <= 24; n++) {
            SwapSteps x = ofTwo("a".repeat(n), "c".repeat(24 - n));
            checks.due(n + " and " + (24 - n), x.both(0, 1, 2), 24);
            checks.dueRow(n + " and " + (24 - n), x, 2, "a".repeat(n) + "c".repeat(24 - n));
            if (n < 24) {
                x.add(0, 0);
                checks.due("25", x.both(0, 1, 2), SwapSteps.FULL);
                checks.due("25", x.both(1, 0, 3), SwapSteps.FULL);
            }
        }
        // what they share counts once
        SwapSteps x = ofTwo("b".repeat(20) + "aa", "b".repeat(20) + "cc");
        checks.due("20 shared, two more of each", x.both(0, 1, 2), 24);
        x.add(1, 2);
        checks.due("three more of one", x.both(0, 1, 2), SwapSteps.FULL);
        x.add(1, 1);
        checks.due("none, whatever its length", x.both(0, 1, 2), SwapSteps.NOT);
        checks.due("c stays", x.count(5), 24);
    }

    private static void bothWithNoneAndItself() {
        SwapSteps x = ofTwo("", ABC8);
        checks.due("none and none", x.both(0, 0, 2), 0);
        checks.due("none and 24", x.both(0, 1, 2), 24);
        checks.due("24 and none", x.both(1, 0, 3), 24);
        checks.due("24 and itself", x.both(1, 1, 1), 24);
        checks.due("24 and its twin", x.both(2, 3, 0), 24);
        SwapSteps y = ofTwo("ca", "");
        checks.due("told by its least row", y.both(0, 1, 0), 2);
        checks.dueRow("told by its least row", y, 0, "ac");
        for (int n = 0; n <= 24; n++) {
            SwapSteps z = ofTwo(ABC8.substring(0, n), ABC8);
            checks.due(n + " begins 24", z.both(0, 1, 2), 24);
        }
    }

    private static void bothIsNoneIfOneStandsInTheWay() {
        String[][] none = {{"a", "b"}, {"ab", "ba"}, {"a", "cb"}, {"ab", "c"}, {"bab", "bb"}, {"aab", "acb"}};
        for (String[] pair : none) {
            SwapSteps x = ofTwo(pair[0], pair[1]);
            checks.due(pair[0] + " and " + pair[1], x.both(0, 1, 2), SwapSteps.NOT);
            checks.due(pair[1] + " and " + pair[0], x.both(1, 0, 2), SwapSteps.NOT);
        }
        String[][] both = {{"a", "c", "ac"}, {"a", "aa", "aa"}, {"ba", "bcc", "bacc"}, {"ac", "cc", "acc"}, {"acb", "c", "acb"}};
        for (String[] pair : both) {
            SwapSteps x = ofTwo(pair[0], pair[1]);
            checks.due(pair[0] + " and " + pair[1], x.both(0, 1, 2), pair[2].length());
            checks.dueRow(pair[0] + " and " + pair[1], x, 2, pair[2]);
            checks.due(pair[1] + " and " + pair[0], x.both(1, 0, 3), pair[2].length());
        }
    }

    /** Each of a, b, c is one of HEAPS 0 .. 3, maybe the same: what is made is of both as they were. */
    private static void madeOfAndIntoEachHeap() {
        String[] rows = {"aba", "ab", "abac", "a"};
        for (int abc = 0; abc < 64; abc++) {
            int a = abc / 16;
            int b = abc / 4 % 4;
            int c = abc % 4;
            boolean begins = rows[b].startsWith(rows[a]);
            SwapSteps x = Checks.made("heap 0 is aba;heap 1 is ab;heap 2 is abac;heap 3 is a");
            checks.due("join", x.join(a, b, c), rows[a].length() + rows[b].length());
            dueHeaps(x, rows, c, rows[a] + rows[b]);
            x = Checks.made("heap 0 is aba;heap 1 is ab;heap 2 is abac;heap 3 is a");
            checks.due("left", x.left(a, b, c), begins ? rows[b].length() - rows[a].length() : SwapSteps.NOT);
            dueHeaps(x, rows, c, begins ? rows[b].substring(rows[a].length()) : rows[c]);
            String shorter = rows[a].length() < rows[b].length() ? rows[a] : rows[b];
            String longer = rows[a].length() < rows[b].length() ? rows[b] : rows[a];
            x = Checks.made("heap 0 is aba;heap 1 is ab;heap 2 is abac;heap 3 is a");
            checks.due("shared", x.shared(a, b, c), shorter.length());
            dueHeaps(x, rows, c, shorter);
            x = Checks.made("heap 0 is aba;heap 1 is ab;heap 2 is abac;heap 3 is a");
            checks.due("both", x.both(a, b, c), longer.length());
            dueHeaps(x, rows, c, longer);
        }
    }

    private static void dueHeaps(SwapSteps x, String[] rows, int changed, String changedTo) {
        for (int h = 0; h <= 3; h++) {
            checks.dueRow("heap " + h, x, h, h == changed ? changedTo : rows[h]);
        }
    }

    private static void mirrorOf0To24() {
        for (int n = 0; n <= 24; n++) {
            SwapSteps x = ofTwo(ABC8.substring(24 - n), "a");
            checks.due("mirror of " + n, x.mirror(0), n);
            checks.dueRow("mirror of " + n, x, 0, "cbacbacbacbacbacbacbacba".substring(0, n));
            checks.due("mirror again", x.mirror(0), n);
            checks.dueRow("as it was", x, 0, ABC8.substring(24 - n));
            checks.dueRow("the other stays", x, 1, "a");
        }
    }

    /** "How many PARTS (i -1) ..; NONE: there are not so many. .. OUTSIDE: i below -1." */
    private static void partFromMinus1() {
        SwapSteps x = ofTwo("ac", "");
        checks.due("i -1", x.part(0, -1), 2);
        checks.due("i -2", x.part(0, -2), SwapSteps.OUTSIDE);
        checks.due("i least", x.part(0, MIN), SwapSteps.OUTSIDE);
        checks.due("i 0", x.part(0, 0), 1);
        checks.due("the last", x.part(0, 1), 4);
        checks.due("one beyond", x.part(0, 2), SwapSteps.NONE);
        checks.due("i greatest", x.part(0, MAX), SwapSteps.NONE);
        checks.due("none: how many", x.part(1, -1), 0);
        checks.due("none: the first", x.part(1, 0), SwapSteps.NONE);
        checks.due("none: below", x.part(1, -2), SwapSteps.OUTSIDE);
        checks.due("heap 4, i -2", x.part(4, -2), SwapSteps.UNKNOWN);
    }

    private static void partsOf0To6() {
        for (int n = 0; n <= 6; n++) {
            SwapSteps x = Checks.allFree(6);
            SwapSteps y = Checks.made("letters 6");
            for (int p = 5; p > 5 - n; p--) {
                for (int times = 0; times < 4; times++) {
                    x.add(0, p);
                    y.add(0, p);
                }
            }
            checks.due("all free: parts of " + n, x.part(0, -1), n);
            for (int i = 0; i < 7; i++) {
                checks.due("all free: part " + i, x.part(0, i), i < n ? 1 << 6 - n + i : SwapSteps.NONE);
            }
            checks.due("nothing free: parts of " + n, y.part(0, -1), Math.min(n, 1));
            checks.due("nothing free: the first", y.part(0, 0), n == 0 ? SwapSteps.NONE : 63 & ~((1 << 6 - n) - 1));
            checks.due("nothing free: no second", y.part(0, 1), SwapSteps.NONE);
        }
    }

    /** "or by way of others of it": not by way of letters that it has not. */
    private static void partsByWayOfOthersOfIt() {
        // only a-f, f-b, b-e, e-c, c-d hang together by themselves: a way through all six
        int[][] bound = {{0, 5}, {1, 5}, {1, 4}, {2, 4}, {2, 3}};
        SwapSteps x = Checks.allFree(6);
        for (int[] pair : bound) {
            x.free(pair[0], pair[1], false);
        }
        Checks.setHeap(x, 0, "abcdef");
        checks.due("all by way of all", x.part(0, -1), 1);
        checks.due("all by way of all", x.part(0, 0), 63);
        Checks.setHeap(x, 0, "dcefa");
        checks.due("without b", x.part(0, -1), 2);
        checks.due("a and f", x.part(0, 0), 33);
        checks.due("c, d and e", x.part(0, 1), 28);
        Checks.setHeap(x, 0, "ad");
        checks.due("both ends alone", x.part(0, -1), 2);
        checks.due("d", x.part(0, 1), 8);
    }

    /** "(0 for the empty one)" */
    private static void rootOfNone() {
        SwapSteps x = new SwapSteps();
        for (int h = 0; h <= 3; h++) {
            checks.due("root of none", x.root(h), 0);
        }
        for (int h : new int[] {-1, 4, MIN, MAX}) {
            checks.due("root of heap " + h, x.root(h), SwapSteps.UNKNOWN);
        }
    }

    private static void rootOf1To24() {
        String[] words = {"a", "ab", "abc", "aab", "abac", "abbac", "aabcba", "abacbacb"};
        for (String word : words) {
            for (int n = 1; n * word.length() <= 24; n++) {
                SwapSteps x = new SwapSteps();
                Checks.setHeap(x, 0, word.repeat(n));
                checks.due(n + " times " + word, x.root(0), n);
                if (word.length() > 1 && n * word.length() < 24) {
                    x.add(0, 0);
                    checks.due(n + " times " + word + " and a", x.root(0), 1);
                }
            }
        }
    }

    /** "the greatest n for which the HEAP is n times one HEAP": by whichever row it is told. */
    private static void rootIsTheGreatest() {
        String[] rows = {"ac", "aacc", "acca", "aaaccc", "aaaacccc", "aacccc", "aaacccccc", "acbcab", "cabacb", "acbacbcabcab"};
        int[] roots = {1, 2, 2, 3, 4, 2, 3, 2, 2, 4};
        for (int i = 0; i < rows.length; i++) {
            SwapSteps x = ofTwo(rows[i], "");
            checks.due("root of " + rows[i], x.root(0), roots[i]);
        }
        SwapSteps x = ofTwo("a".repeat(12) + "c".repeat(12), "c".repeat(23) + "a");
        checks.due("12 of each", x.root(0), 12);
        checks.due("23 and one", x.root(1), 1);
        x.free(0, 2, false);
        checks.due("12 of each, nothing free", x.root(0), 1);
    }

    private static void circleOfNone() {
        SwapSteps x = new SwapSteps();
        checks.due("circle of none: itself", x.circle(0), 1);
        checks.due("circle of one", x.add(0, 2) == 1 ? x.circle(0) : 0, 1);
        checks.due("turned of none to none", x.turned(1, 2), 1);
        checks.due("turned of none to itself", x.turned(3, 3), 1);
        checks.due("turned of none to one", x.turned(1, 0), 0);
        checks.due("turned of one to none", x.turned(0, 1), 0);
    }

    /** "OUTSIDE: more than 12 LETTERS". */
    private static void circleOf12AtMost() {
        for (int n = 1; n <= 24; n++) {
            SwapSteps x = ofTwo("a".repeat(n - 1) + "b", ABC8.substring(0, n));
            checks.due("circle of " + n, x.circle(0), n <= 12 ? n : SwapSteps.OUTSIDE);
            checks.due("turned of " + n, x.turned(0, 0), n <= 12 ? 1 : SwapSteps.OUTSIDE);
            Checks.setHeap(x, 2, "b" + "a".repeat(n - 1));
            checks.due("turned of " + n, x.turned(0, 2), n <= 12 ? 1 : SwapSteps.OUTSIDE);
            Checks.setHeap(x, 3, "c".repeat(n));
            checks.due("circle of one letter", x.circle(3), n <= 12 ? 1 : SwapSteps.OUTSIDE);
        }
        SwapSteps x = ofTwo("abcabcabcabc", "");
        checks.due("12", x.circle(0), 4);
        checks.due("13", x.add(0, 0) == 13 ? x.circle(0) : 0, SwapSteps.OUTSIDE);
    }

    /** "SPENT: more than 2000": a star has 324, the most that 12 letters were found to have. */
    private static void circleOfTheMost() {
        SwapSteps x = Checks.allFree(6);
        for (int p = 0; p < 5; p++) {
            x.free(p, 5, false);
        }
        Checks.setHeap(x, 0, "faabbccddeee");
        checks.due("the star's circle", x.circle(0), 324);
        Checks.setHeap(x, 1, "abcdeefabcde");
        checks.due("one of it", x.turned(0, 1), 1);
        Checks.setHeap(x, 1, "abcdefeabcde");
        checks.due("another one of it", x.turned(0, 1), 1);
        Checks.setHeap(x, 1, "aabcdefeabcd");
        checks.due("three a, two e", x.turned(0, 1), 0);
        // three pairs that have nothing to do with each other: 4 * 4 * 4
        SwapSteps y = Checks.allFree(6);
        for (int p = 0; p < 6; p += 2) {
            y.free(p, p + 1, false);
        }
        Checks.setHeap(y, 0, "aabbccddeeff");
        checks.due("the pairs' circle", y.circle(0), 64);
        SwapSteps z = Checks.made("letters 6;heap 0 is abcdefabcdee");
        checks.due("nothing free", z.circle(0), 12);
    }

    /** "OUTSIDE: a has more than 12 LETTERS": b may have more. */
    private static void turnedOf12AtMost() {
        SwapSteps x = ofTwo("a".repeat(12), "a".repeat(13));
        Checks.setHeap(x, 2, ABC8);
        checks.due("12 to 13", x.turned(0, 1), 0);
        checks.due("13 to 12", x.turned(1, 0), SwapSteps.OUTSIDE);
        checks.due("13 to itself", x.turned(1, 1), SwapSteps.OUTSIDE);
        checks.due("12 to 24", x.turned(0, 2), 0);
        checks.due("24 to 12", x.turned(2, 0), SwapSteps.OUTSIDE);
        checks.due("none to 24", x.turned(3, 2), 0);
        checks.due("24 to none", x.turned(2, 3), SwapSteps.OUTSIDE);
        for (int h : new int[] {-1, 4, MIN, MAX}) {
            checks.due("24 to heap " + h, x.turned(2, h), SwapSteps.UNKNOWN);
            checks.due("heap " + h + " to 24", x.turned(h, 2), SwapSteps.UNKNOWN);
        }
    }

    private static void turnedToAnotherLength() {
        for (int n = 0; n <= 12; n++) {
            for (int m = 0; m <= 24; m++) {
                SwapSteps x = ofTwo("a".repeat(n), "a".repeat(m));
                checks.due(n + " to " + m, x.turned(0, 1), n == m ? 1 : 0);
            }
        }
    }

    /** "how many HEAPS one comes to so, itself, too". */
    private static void turnedToItselfAndToAll() {
        String row = "aabacbabbcba";
        for (int at = 0; at < 12; at++) {
            SwapSteps x = new SwapSteps();
            Checks.setHeap(x, 0, row);
            Checks.setHeap(x, 1, row.substring(at) + row.substring(0, at));
            checks.due("turned by " + at, x.turned(0, 1), 1);
            checks.due("turned back by " + at, x.turned(1, 0), 1);
            checks.due("circle", x.circle(1), 12);
            x.mirror(1);
            checks.due("as many letters, another order", x.turned(0, 1), 0);
        }
        // turning may be needed again and again where free letters change places between
        SwapSteps x = ofTwo("abcb", "babc");
        checks.due("by three", x.turned(0, 1), 1);
        checks.due("as often as there are heaps", x.circle(0), 4);
    }
}
