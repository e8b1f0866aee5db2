/**
 * "Refused, and nothing changes: UNKNOWN, OUTSIDE, NOT, FULL, SPENT: the first of these that fits." Each refused call
 * is made on an object, and the object is looked at beside a twin that had no such call.
 */
public final class RefusedTest {
    private static final int MIN = Integer.MIN_VALUE;
    private static final int MAX = Integer.MAX_VALUE;
    private static final int[] NO_HEAPS = {-1, 4, MIN, MAX};
    private static final Checks checks = new Checks();

    /** A call on an object, or how one is made. */
    private interface Call {
        int on(SwapSteps x);
    }

    public static void main(String[] args) {
        theLookSeesChanges();
        ofUnknownHeaps();
        ofUnknownHeapsOfThree();
        ofTheText();
        ofLettersAndHeaps();
        ofLayersAndOrders();
        ofHeapsOfHeaps();
        ofAllHeaps();
        ofTheReader();
        unknownComesFirst();
        notComesAheadOfFull();
        checks.finish();
    }

    /** Four letters, four heaps (one full), a text that is not told yet, a reader of three states. */
    private static SwapSteps rich() {
        SwapSteps x = Checks.made("letters 4;free ac;free bd;free ad;heap 0 is abcdabcdabcdabcdabcdabcd");
        Checks.tell(x, "heap 1 is bca;heap 2 is dbcacdbacdaab;heap 3 is cb");
        x.reader(3, 5);
        x.move(0, 0, 1);
        x.move(1, 3, 2);
        x.move(2, 5, 0);
        Checks.write(x, "free ab;heap 3 is none");
        return x;
    }

    private static SwapSteps ofText(String text) {
        SwapSteps x = rich();
        x.erase();
        Checks.write(x, text);
        return x;
    }

    private static void refused(String name, int want, Call call) {
        SwapSteps x = rich();
        checks.due(name, call.on(x), want);
        dueAlike(name, x, rich());
    }

    private static void dueAlike(String name, SwapSteps x, SwapSteps twin) {
        checks.due(name + " changed nothing", Look.at(x).equals(Look.at(twin)) ? 1 : 0, 1);
    }

    /** So that a look that sees nothing does not pass for one that sees no change. */
    private static void theLookSeesChanges() {
        Call[] changes = {x -> x.write(' ', 1), x -> x.erase(), x -> x.told(), x -> x.free(0, 1, true), x -> x.free(0, 2, false),
            x -> x.add(1, 0), x -> x.clear(2), x -> x.join(1, 1, 1), x -> x.left(3, 3, 3), x -> x.shared(1, 2, 1),
            x -> x.both(1, 1, 3), x -> x.mirror(2), x -> x.reader(3, 5), x -> x.reader(3, 4), x -> x.reader(2, 1),
            x -> x.move(2, 5, 1), x -> x.move(0, 0, 2)};
        for (int i = 0; i < changes.length; i++) {
            SwapSteps x = rich();
            changes[i].on(x);
            checks.due("change " + i + " is seen", Look.at(x).equals(Look.at(rich())) ? 0 : 1, 1);
        }
        dueAlike("two made alike", rich(), rich());
    }

    private static void ofUnknownHeaps() {
        for (int h : NO_HEAPS) {
            refused("add to heap " + h, SwapSteps.UNKNOWN, x -> x.add(h, 0));
            refused("clear of heap " + h, SwapSteps.UNKNOWN, x -> x.clear(h));
            refused("letter of heap " + h, SwapSteps.UNKNOWN, x -> x.letter(h, 0, 0));
            refused("same of heap " + h, SwapSteps.UNKNOWN, x -> x.same(h, 0));
            refused("same with heap " + h, SwapSteps.UNKNOWN, x -> x.same(0, h));
            refused("same of two heaps " + h, SwapSteps.UNKNOWN, x -> x.same(h, h));
            refused("apart of heap " + h, SwapSteps.UNKNOWN, x -> x.apart(h, 0));
            refused("apart with heap " + h, SwapSteps.UNKNOWN, x -> x.apart(0, h));
            refused("apart of two heaps " + h, SwapSteps.UNKNOWN, x -> x.apart(h, h));
            refused("layer of heap " + h, SwapSteps.UNKNOWN, x -> x.layer(h, -1));
            refused("ahead of heap " + h, SwapSteps.UNKNOWN, x -> x.ahead(h, 0, 1));
            refused("begins of heap " + h, SwapSteps.UNKNOWN, x -> x.begins(h, 0));
            refused("mirror of heap " + h, SwapSteps.UNKNOWN, x -> x.mirror(h));
            refused("part of heap " + h, SwapSteps.UNKNOWN, x -> x.part(h, -1));
            refused("root of heap " + h, SwapSteps.UNKNOWN, x -> x.root(h));
            refused("circle of heap " + h, SwapSteps.UNKNOWN, x -> x.circle(h));
            refused("turned of heap " + h, SwapSteps.UNKNOWN, x -> x.turned(h, 1));
            refused("turned to heap " + h, SwapSteps.UNKNOWN, x -> x.turned(1, h));
            refused("place of heap " + h, SwapSteps.UNKNOWN, x -> x.place(h));
            refused("run of heap " + h, SwapSteps.UNKNOWN, x -> x.run(h, 0));
        }
    }

    private static void ofUnknownHeapsOfThree() {
        for (int h : NO_HEAPS) {
            refused("join of a " + h, SwapSteps.UNKNOWN, x -> x.join(h, 1, 3));
            refused("join of b " + h, SwapSteps.UNKNOWN, x -> x.join(1, h, 3));
            refused("join to c " + h, SwapSteps.UNKNOWN, x -> x.join(1, 3, h));
            refused("left of a " + h, SwapSteps.UNKNOWN, x -> x.left(h, 1, 3));
            refused("left of b " + h, SwapSteps.UNKNOWN, x -> x.left(1, h, 3));
            refused("left to c " + h, SwapSteps.UNKNOWN, x -> x.left(1, 1, h));
            refused("shared of a " + h, SwapSteps.UNKNOWN, x -> x.shared(h, 1, 3));
            refused("shared of b " + h, SwapSteps.UNKNOWN, x -> x.shared(1, h, 3));
            refused("shared to c " + h, SwapSteps.UNKNOWN, x -> x.shared(1, 1, h));
            refused("both of a " + h, SwapSteps.UNKNOWN, x -> x.both(h, 1, 3));
            refused("both of b " + h, SwapSteps.UNKNOWN, x -> x.both(1, h, 3));
            refused("both to c " + h, SwapSteps.UNKNOWN, x -> x.both(1, 1, h));
        }
    }

    private static void ofTheText() {
        for (int n : new int[] {0, 9, -1, 10, MIN, MAX}) {
            refused("write of n " + n, SwapSteps.OUTSIDE, x -> x.write(0x61, n));
        }
        String full = "free ab" + " ".repeat(153);
        for (int n = 1; n <= 8; n++) {
            SwapSteps x = ofText(full);
            checks.due("write of " + n + " behind 160", x.write(0x2020202020202020L, n), SwapSteps.FULL);
            dueAlike("write of " + n + " behind 160", x, ofText(full));
            String nearlyFull = full.substring(0, 161 - n);
            SwapSteps y = ofText(nearlyFull);
            checks.due("write of " + n + " behind " + (161 - n), y.write(0x2020202020202020L, n), SwapSteps.FULL);
            dueAlike("write of " + n + " behind " + (161 - n), y, ofText(nearlyFull));
        }
        // the first lines would change much, the last has the fault
        for (String faulty : new String[] {"", "  ", "free ab;", "letters 2;heap 0 is none;free bb",
            "bound ac;heap 1 is ad;heap 2 is none;letters 7", "free ab;heap 4 is a", "free ab free bc"}) {
            SwapSteps x = ofText(faulty);
            checks.due("told of '" + faulty + "'", x.told(), SwapSteps.NOT);
            dueAlike("told of '" + faulty + "'", x, ofText(faulty));
        }
    }

    private static void ofLettersAndHeaps() {
        for (int p : new int[] {-1, 4, 5, 6, MIN, MAX}) {
            for (boolean are : new boolean[] {true, false}) {
                refused("free of letter " + p, SwapSteps.UNKNOWN, x -> x.free(p, 0, are));
                refused("free with letter " + p, SwapSteps.UNKNOWN, x -> x.free(0, p, are));
                refused("free of two letters " + p, SwapSteps.UNKNOWN, x -> x.free(p, p, are));
            }
            refused("add of letter " + p, SwapSteps.UNKNOWN, x -> x.add(1, p));
        }
        for (int p = 0; p < 4; p++) {
            int same = p;
            refused("free of " + p + " and itself", SwapSteps.UNKNOWN, x -> x.free(same, same, true));
            refused("bound of " + p + " and itself", SwapSteps.UNKNOWN, x -> x.free(same, same, false));
            refused("add behind 24", SwapSteps.FULL, x -> x.add(0, same));
        }
        for (int what : new int[] {-1, 2, MIN, MAX}) {
            refused("letter of what " + what, SwapSteps.OUTSIDE, x -> x.letter(1, 0, what));
        }
        for (int i : new int[] {-1, -2, MIN}) {
            refused("letter " + i, SwapSteps.OUTSIDE, x -> x.letter(1, i, 0));
            refused("letter " + i + " of the least row", SwapSteps.OUTSIDE, x -> x.letter(1, i, 1));
        }
        for (int what : new int[] {-1, 7, MIN, MAX}) {
            refused("count of what " + what, SwapSteps.OUTSIDE, x -> x.count(what));
        }
    }

    private static void ofLayersAndOrders() {
        for (int i : new int[] {-2, -3, MIN}) {
            refused("layer " + i, SwapSteps.OUTSIDE, x -> x.layer(1, i));
        }
        for (int i : new int[] {-1, 3, MIN, MAX}) {
            refused("place " + i + " ahead of 0", SwapSteps.OUTSIDE, x -> x.ahead(1, i, 0));
            refused("place 0 ahead of " + i, SwapSteps.OUTSIDE, x -> x.ahead(1, 0, i));
            refused("place " + i + " ahead of itself", SwapSteps.OUTSIDE, x -> x.ahead(1, i, i));
        }
        refused("place 0 ahead of 24", SwapSteps.OUTSIDE, x -> x.ahead(0, 0, 24));
        refused("place 24 ahead of 0", SwapSteps.OUTSIDE, x -> x.ahead(0, 24, 0));
        for (int what : new int[] {-1, 3, MIN, MAX}) {
            refused("begins of what " + what, SwapSteps.OUTSIDE, x -> x.begins(1, what));
        }
    }

    private static void ofHeapsOfHeaps() {
        refused("join of 24 and 2", SwapSteps.FULL, x -> x.join(0, 3, 1));
        refused("join of 2 and 24 to itself", SwapSteps.FULL, x -> x.join(3, 0, 3));
        refused("join of 24 and 24", SwapSteps.FULL, x -> x.join(0, 0, 0));
        refused("join of 13 and 13", SwapSteps.FULL, x -> x.join(2, 2, 2));
        refused("left of a longer one", SwapSteps.NOT, x -> x.left(2, 1, 3));
        refused("left of a longer one to itself", SwapSteps.NOT, x -> x.left(2, 1, 2));
        refused("left of another front", SwapSteps.NOT, x -> x.left(3, 0, 1));
        refused("left of another front to it", SwapSteps.NOT, x -> x.left(3, 0, 0));
        refused("both of two that stand in the way", SwapSteps.NOT, x -> x.both(1, 3, 2));
        refused("both of two that stand in the way to one", SwapSteps.NOT, x -> x.both(1, 3, 3));
        for (int i : new int[] {-2, -3, MIN}) {
            refused("part " + i, SwapSteps.OUTSIDE, x -> x.part(1, i));
        }
        refused("circle of 13", SwapSteps.OUTSIDE, x -> x.circle(2));
        refused("circle of 24", SwapSteps.OUTSIDE, x -> x.circle(0));
        refused("turned of 13", SwapSteps.OUTSIDE, x -> x.turned(2, 1));
        refused("turned of 24", SwapSteps.OUTSIDE, x -> x.turned(0, 0));
    }

    private static void ofAllHeaps() {
        for (int n : new int[] {-1, 7, MIN, MAX}) {
            refused("together of " + n, SwapSteps.OUTSIDE, x -> x.together(n));
        }
        for (int n : new int[] {-1, 61, MIN, MAX}) {
            refused("many of " + n, SwapSteps.OUTSIDE, x -> x.many(n));
            refused("taken of " + n, SwapSteps.OUTSIDE, x -> x.taken(n));
        }
        for (int n : new int[] {-1, 21, MIN, MAX}) {
            refused("of length " + n, SwapSteps.OUTSIDE, x -> x.of(n, 0, 0));
        }
        for (int i : new int[] {-1, -2, MIN}) {
            refused("of heap " + i, SwapSteps.OUTSIDE, x -> x.of(3, i, 0));
            refused("of letter " + i, SwapSteps.OUTSIDE, x -> x.of(3, 0, i));
            refused("of letter " + i + " of no such heap", SwapSteps.OUTSIDE, x -> x.of(3, MAX, i));
        }
        refused("place of 24", SwapSteps.OUTSIDE, x -> x.place(0));
    }

    private static void ofTheReader() {
        for (int n : new int[] {0, 6, -1, 31, 32, 33, MIN, MAX}) {
            refused("reader of " + n, SwapSteps.OUTSIDE, x -> x.reader(n, 0));
            refused("reader of " + n + ", the first takes", SwapSteps.OUTSIDE, x -> x.reader(n, 1));
        }
        for (int n = 1; n <= 5; n++) {
            int states = n;
            for (int takes : new int[] {1 << n, (1 << n) + 1, -1, MIN, MAX}) {
                refused("reader of " + n + " takes " + takes, SwapSteps.OUTSIDE, x -> x.reader(states, takes));
            }
        }
        for (int state : new int[] {-1, 3, 4, 5, MIN, MAX}) {
            refused("move of " + state, SwapSteps.UNKNOWN, x -> x.move(state, 0, 0));
            refused("move to " + state, SwapSteps.UNKNOWN, x -> x.move(0, 0, state));
            refused("move of and to " + state, SwapSteps.UNKNOWN, x -> x.move(state, 0, state));
        }
        for (int letter : new int[] {-1, 6, 7, MIN, MAX}) {
            refused("move by " + letter, SwapSteps.OUTSIDE, x -> x.move(0, letter, 2));
        }
        for (int what : new int[] {-1, 2, MIN, MAX}) {
            refused("run of what " + what, SwapSteps.OUTSIDE, x -> x.run(1, what));
        }
    }

    private static void unknownComesFirst() {
        for (int h : NO_HEAPS) {
            refused("no heap, no letter", SwapSteps.UNKNOWN, x -> x.add(h, 4));
            refused("no heap; i", SwapSteps.UNKNOWN, x -> x.letter(h, -1, 0));
            refused("no heap; what", SwapSteps.UNKNOWN, x -> x.letter(h, 0, 2));
            refused("no heap; layer", SwapSteps.UNKNOWN, x -> x.layer(h, -2));
            refused("no heap; places", SwapSteps.UNKNOWN, x -> x.ahead(h, -1, 24));
            refused("no heap; begins", SwapSteps.UNKNOWN, x -> x.begins(h, 3));
            refused("no heap; part", SwapSteps.UNKNOWN, x -> x.part(h, -2));
            refused("no heap; run", SwapSteps.UNKNOWN, x -> x.run(h, 2));
            refused("no heap c, more than 24", SwapSteps.UNKNOWN, x -> x.join(0, 0, h));
            refused("no heap c, no beginning", SwapSteps.UNKNOWN, x -> x.left(2, 1, h));
            refused("no heap c, none of both", SwapSteps.UNKNOWN, x -> x.both(1, 3, h));
            refused("no heap b, a has 24", SwapSteps.UNKNOWN, x -> x.turned(0, h));
        }
        refused("no letter, a full heap", SwapSteps.UNKNOWN, x -> x.add(0, 4));
        refused("no letter, a full heap", SwapSteps.UNKNOWN, x -> x.add(0, -1));
        refused("no state, no letter", SwapSteps.UNKNOWN, x -> x.move(3, 6, 0));
        refused("no state, no letter", SwapSteps.UNKNOWN, x -> x.move(-1, -1, 0));
        refused("to no state, no letter", SwapSteps.UNKNOWN, x -> x.move(0, 6, 3));
        refused("to no state, no letter", SwapSteps.UNKNOWN, x -> x.move(0, -1, -1));
        String full = " ".repeat(160);
        for (int n : new int[] {0, 9, MIN, MAX}) {
            SwapSteps x = ofText(full);
            checks.due("write of n " + n + " behind 160", x.write(0, n), SwapSteps.OUTSIDE);
            dueAlike("write of n " + n + " behind 160", x, ofText(full));
        }
    }

    private static SwapSteps ofTwoLong(String a, String b) {
        SwapSteps x = Checks.made("letters 3;free ac;heap 0 is " + a + ";heap 1 is " + b + ";heap 2 is b");
        Checks.write(x, "free ab");
        return x;
    }

    private static void notComesAheadOfFull() {
        String[][] pairs = {{"a".repeat(13), "c".repeat(12)}, {"a".repeat(24), "c"}, {"a".repeat(24), "c".repeat(24)}};
        for (String[] pair : pairs) {
            SwapSteps x = ofTwoLong(pair[0], pair[1]);
            checks.due("both of more than 24", x.both(0, 1, 2), SwapSteps.FULL);
            dueAlike("both of more than 24", x, ofTwoLong(pair[0], pair[1]));
            SwapSteps unknown = ofTwoLong(pair[0], pair[1]);
            checks.due("no heap c, more than 24", unknown.both(0, 1, 4), SwapSteps.UNKNOWN);
            dueAlike("no heap c, more than 24", unknown, ofTwoLong(pair[0], pair[1]));
            // b behind c stands in the way of a, so there is none, how long ever it were
            String inTheWay = pair[1].substring(1) + "b";
            SwapSteps none = ofTwoLong(pair[0], inTheWay);
            checks.due("none, of more than 24", none.both(0, 1, 2), SwapSteps.NOT);
            dueAlike("none, of more than 24", none, ofTwoLong(pair[0], inTheWay));
        }
    }
}
