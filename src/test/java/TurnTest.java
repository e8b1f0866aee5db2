/** Promises 20 to 23: part, root, circle, turned. */
public final class TurnTest {
    private static final Checks checks = new Checks();

    public static void main(String[] args) {
        parts();
        roots();
        circles();
        turns();
        checks.finish();
    }

    private static void parts() {
        SwapSteps x = new SwapSteps();
        checks.due("no parts", x.part(0, -1), 0);
        checks.due("no parts", x.part(0, 0), SwapSteps.NONE);
        Checks.tell(x, "letters 4;free ab;free ac;free bd;free cd;free ad;free bc;heap 0 is dbca");
        checks.due("each by itself", x.part(0, -1), 4);
        checks.due("by their letters", x.part(0, 1), 2);
        checks.due("the last", x.part(0, 3), 8);
        x.free(0, 3, false);
        checks.due("ad hang together", x.part(0, -1), 3);
        checks.due("ad first", x.part(0, 0), 9);
        checks.due("then b", x.part(0, 1), 2);
        checks.due("then c", x.part(0, 2), 4);
        checks.due("no more", x.part(0, 3), SwapSteps.NONE);
        // a and c by way of b alone: only if b is there
        Checks.tell(x, "letters 3;free ac;heap 0 is ca;heap 1 is cba");
        checks.due("without b", x.part(0, -1), 2);
        checks.due("with b", x.part(1, -1), 1);
        checks.due("with b", x.part(1, 0), 7);
        checks.due("below", x.part(0, -2), SwapSteps.OUTSIDE);
        checks.due("no such heap", x.part(4, -2), SwapSteps.UNKNOWN);
    }

    private static void dueRoot(SwapSteps x, String word, int want) {
        Checks.setHeap(x, 0, word);
        checks.due("root of " + word, x.root(0), want);
    }

    private static void roots() {
        SwapSteps x = new SwapSteps();
        dueRoot(x, "", 0);
        dueRoot(x, "a", 1);
        dueRoot(x, "ab", 1);
        dueRoot(x, "aabb", 1);
        dueRoot(x, "abababab", 4);
        dueRoot(x, "aaaaaaaaaaaaaaaaaaaaaaaa", 24);
        dueRoot(x, "abcabcabcabcabcabcabcabc", 8);
        dueRoot(x, "abaaba", 2);
        x.free(0, 2, true);
        dueRoot(x, "acac", 2);
        dueRoot(x, "aaccc", 1);
        dueRoot(x, "aacccc", 2);
        dueRoot(x, "aabccabc", 1);
        dueRoot(x, "acbcab", 2);
        dueRoot(x, "aabccb", 1);
        checks.due("no such heap", x.root(4), SwapSteps.UNKNOWN);
        checks.due("no such heap", x.root(-1), SwapSteps.UNKNOWN);
    }

    private static void dueCircle(SwapSteps x, String word, int want) {
        Checks.setHeap(x, 0, word);
        checks.due("circle of " + word, x.circle(0), want);
    }

    private static void circles() {
        SwapSteps x = new SwapSteps();
        dueCircle(x, "", 1);
        dueCircle(x, "aaaa", 1);
        dueCircle(x, "abab", 2);
        dueCircle(x, "aabb", 4);
        dueCircle(x, "aaaaaaaaaaab", 12);
        dueCircle(x, "aaaaaaaaaaabb", SwapSteps.OUTSIDE);
        x.free(0, 2, true);
        dueCircle(x, "acac", 1);
        dueCircle(x, "abcabc", 4);
        Checks.tell(x, "letters 6;free ab;free ac;free ad;free ae;free bc;free bd;free be;free cd;free ce;free de");
        // each of the leaves a .. e may lie before or behind f by each of its letters: 3 * 3 * 3 * 3 * 4
        dueCircle(x, "faabbccddeee", 324);
        checks.due("no such heap", x.circle(4), SwapSteps.UNKNOWN);
        checks.due("no such heap", x.circle(-1), SwapSteps.UNKNOWN);
    }

    private static void turns() {
        SwapSteps x = new SwapSteps();
        checks.due("empty ones", x.turned(0, 1), 1);
        Checks.tell(x, "free ac;heap 0 is abcabc;heap 1 is cbacba;heap 2 is cabcab;heap 3 is abc");
        checks.due("turned", x.turned(0, 1), 1);
        checks.due("itself", x.turned(0, 0), 1);
        checks.due("one heap with one turned", x.turned(0, 2), 1);
        checks.due("shorter", x.turned(0, 3), 0);
        checks.due("longer", x.turned(3, 0), 0);
        Checks.tell(x, "heap 1 is abbacc;heap 2 is aabbcc");
        checks.due("not turned", x.turned(0, 1), 0);
        checks.due("not turned", x.turned(0, 2), 0);
        Checks.tell(x, "heap 0 is aaaaaaaaaaaaa;heap 1 is aaaaaaaaaaaa;heap 2 is none");
        checks.due("12 and 13", x.turned(1, 0), 0);
        checks.due("13 and 12", x.turned(0, 1), SwapSteps.OUTSIDE);
        checks.due("none and 12", x.turned(2, 1), 0);
        checks.due("no such heap", x.turned(0, 4), SwapSteps.UNKNOWN);
        checks.due("no such heap", x.turned(-1, 0), SwapSteps.UNKNOWN);
    }
}
