/** The bounds that the terms tell of THE READER and promises 28 to 32, a test for each sentence. */
public final class ReaderBoundsTest {
    private static final int MIN = Integer.MIN_VALUE;
    private static final int MAX = Integer.MAX_VALUE;
    private static final Checks checks = new Checks();

    public static void main(String[] args) {
        oneStateAtFirst();
        readerOf1To5States();
        readerTakesStatesThatThereAre();
        readerMovesToItself();
        moveOfStatesThatThereAre();
        moveByLetters0To5();
        moveTellsWhereItLed();
        unknownStatesComeFirst();
        mindsNothing();
        mindsTheFirst();
        mindsJustFreePairs();
        mindsInStatesThatNoneComesTo();
        runOfWhat0And1();
        runOf0To24Letters();
        takesByEachState();
        takenOf0To60();
        takenOfAllAndNone();
        takenOfFreeOnes();
        takenModulo();
        checks.finish();
    }

    /** "(1 .. 5; one at first)"; "(bits; none at first)"; "(itself at first)". */
    private static void oneStateAtFirst() {
        SwapSteps x = new SwapSteps();
        for (int letter = 0; letter <= 5; letter++) {
            checks.due("itself", x.move(0, letter, 0), 0);
            checks.due("no second", x.move(1, letter, 0), SwapSteps.UNKNOWN);
            checks.due("to no second", x.move(0, letter, 1), SwapSteps.UNKNOWN);
        }
        checks.due("none takes", x.run(0, 1), 0);
        checks.due("state 0", x.run(0, 0), 0);
        checks.due("minds nothing", x.minds(), SwapSteps.NONE);
        for (int n = 0; n <= 60; n++) {
            checks.due("takes none of " + n, x.taken(n), 0);
        }
    }

    private static void readerOf1To5States() {
        for (int n = 1; n <= 5; n++) {
            SwapSteps x = new SwapSteps();
            checks.due("reader of " + n, x.reader(n, 0), 1);
            for (int state = 0; state <= 6; state++) {
                checks.due("state " + state + " of " + n, x.move(state, 0, 0), state < n ? state : SwapSteps.UNKNOWN);
            }
            for (int not : new int[] {0, 6, 7, -1, 31, 32, 33, 64, MIN, MAX}) {
                checks.due("reader of " + not, x.reader(not, 0), SwapSteps.OUTSIDE);
                checks.due("as many as there were", x.move(n - 1, 1, n - 1), n - 1);
                checks.due("as many as there were", x.move(n, 1, 0), SwapSteps.UNKNOWN);
            }
        }
    }

    /** "some TAKE": by bits of STATES that there are. */
    private static void readerTakesStatesThatThereAre() {
        for (int n = 1; n <= 5; n++) {
            for (int takes = 0; takes <= 33; takes++) {
                SwapSteps x = new SwapSteps();
                boolean are = takes < 1 << n;
                checks.due("reader of " + n + " takes " + takes, x.reader(n, takes), are ? 1 : SwapSteps.OUTSIDE);
                x.add(0, 0);
                for (int state = 0; are && state < n; state++) {
                    x.move(0, 0, state);
                    checks.due("state " + state + " of " + n + " takes, of " + takes, x.run(0, 1), takes >> state & 1);
                }
            }
            for (int takes : new int[] {-1, MIN, MAX}) {
                SwapSteps x = new SwapSteps();
                checks.due("reader of " + n + " takes " + takes, x.reader(n, takes), SwapSteps.OUTSIDE);
                checks.due("none takes still", x.run(0, 1), 0);
            }
        }
    }

    /** "all MOVES to itself": whatever moves and states there were. */
    private static void readerMovesToItself() {
        for (int n = 1; n <= 5; n++) {
            for (int before = 1; before <= 5; before++) {
                SwapSteps x = new SwapSteps();
                x.reader(before, 0);
                for (int state = 0; state < before; state++) {
                    for (int letter = 0; letter <= 5; letter++) {
                        x.move(state, letter, before - 1 - state);
                    }
                }
                x.reader(n, 0);
                for (int state = 0; state < n; state++) {
                    for (int letter = 0; letter <= 5; letter++) {
                        checks.due("itself", x.move(state, letter, 0), state);
                    }
                }
            }
        }
    }

    /** "UNKNOWN: STATES". */
    private static void moveOfStatesThatThereAre() {
        for (int n = 1; n <= 5; n++) {
            for (int state : new int[] {MIN, -1, 0, n - 1, n, 5, 6, MAX}) {
                SwapSteps x = new SwapSteps();
                x.reader(n, 0);
                boolean isThere = state >= 0 && state < n;
                checks.due(n + ": move of " + state, x.move(state, 2, 0), isThere ? state : SwapSteps.UNKNOWN);
                checks.due(n + ": move to " + state, x.move(n - 1, 3, state), isThere ? n - 1 : SwapSteps.UNKNOWN);
                checks.due(n + ": where it leads", x.move(n - 1, 3, 0), isThere ? state : n - 1);
            }
        }
    }

    /** "by a LETTER (0 .. 5)": whichever letters there are. */
    private static void moveByLetters0To5() {
        for (int k = 1; k <= 6; k++) {
            SwapSteps x = Checks.made("letters " + k);
            x.reader(2, 0);
            for (int letter = 0; letter <= 5; letter++) {
                checks.due(k + ": move by " + letter, x.move(0, letter, 1), 0);
                checks.due(k + ": it leads there", x.move(0, letter, 1), 1);
                checks.due(k + ": no other state's", x.move(1, letter, 1), 1);
            }
            for (int letter : new int[] {-1, 6, 7, MIN, MAX}) {
                checks.due(k + ": move by " + letter, x.move(0, letter, 1), SwapSteps.OUTSIDE);
            }
            for (int letter = 0; letter <= 5; letter++) {
                checks.due(k + ": still there", x.move(0, letter, 0), 1);
            }
        }
    }

    /** "that to which it was": for each state and letter by itself. */
    private static void moveTellsWhereItLed() {
        SwapSteps x = new SwapSteps();
        x.reader(5, 0);
        for (int state = 0; state < 5; state++) {
            for (int letter = 0; letter <= 5; letter++) {
                checks.due("itself", x.move(state, letter, (state + letter) % 5), state);
            }
        }
        for (int state = 0; state < 5; state++) {
            for (int letter = 0; letter <= 5; letter++) {
                checks.due("where it was led", x.move(state, letter, 4), (state + letter) % 5);
                checks.due("where it was led again", x.move(state, letter, 4), 4);
            }
        }
    }

    private static void unknownStatesComeFirst() {
        SwapSteps x = new SwapSteps();
        x.reader(2, 0);
        checks.due("no state, no letter", x.move(2, 6, 0), SwapSteps.UNKNOWN);
        checks.due("no state, no letter", x.move(-1, -1, 0), SwapSteps.UNKNOWN);
        checks.due("to no state, no letter", x.move(0, 6, 2), SwapSteps.UNKNOWN);
        checks.due("to no state, no letter", x.move(0, -1, -1), SwapSteps.UNKNOWN);
        checks.due("no letter", x.move(1, 6, 1), SwapSteps.OUTSIDE);
        checks.due("no heap, no what", x.run(4, 2), SwapSteps.UNKNOWN);
        checks.due("no heap, no what", x.run(-1, -1), SwapSteps.UNKNOWN);
        checks.due("no what", x.run(3, 2), SwapSteps.OUTSIDE);
    }

    /** "NONE": one state minds nothing; nor do moves that lead to the same either way. */
    private static void mindsNothing() {
        SwapSteps x = Checks.allFree(6);
        checks.due("one state", x.minds(), SwapSteps.NONE);
        x.reader(5, 31);
        checks.due("all to itself", x.minds(), SwapSteps.NONE);
        for (int state = 0; state < 5; state++) {
            for (int letter = 0; letter <= 5; letter++) {
                x.move(state, letter, (state + letter) % 5);
            }
        }
        checks.due("sums do not mind", x.minds(), SwapSteps.NONE);
        // one letter has no other to change places with
        SwapSteps y = Checks.made("letters 1");
        y.reader(2, 0);
        y.move(0, 0, 1);
        y.move(1, 1, 0);
        checks.due("one letter", y.minds(), SwapSteps.NONE);
    }

    /** "the first, as 64 times the STATE, 8 times a LETTER and the other one": from 1 to 293, by this number. */
    private static void mindsTheFirst() {
        for (int state = 0; state < 5; state++) {
            for (int p = 0; p < 6; p++) {
                for (int q = p + 1; q < 6; q++) {
                    SwapSteps x = Checks.made("letters 6");
                    x.free(q, p, true);
                    x.reader(5, 0);
                    // p then q leads to the next state, q then p to the one behind that
                    x.move(state, p, (state + 1) % 5);
                    x.move(state, q, (state + 2) % 5);
                    checks.due("state " + state + ", " + p + q, x.minds(), 64 * state + 8 * p + q);
                    x.free(p, q, false);
                    checks.due("nothing is free", x.minds(), SwapSteps.NONE);
                }
            }
        }
        SwapSteps x = Checks.allFree(6);
        x.reader(5, 0);
        // in each state each letter but a leads to state 0, a to the next state: a is minded beside each
        for (int state = 0; state < 5; state++) {
            x.move(state, 0, (state + 1) % 5);
            for (int letter = 1; letter <= 5; letter++) {
                x.move(state, letter, 0);
            }
        }
        for (int q = 1; q <= 5; q++) {
            checks.due("a and " + q + " in state 0", x.minds(), q);
            x.free(0, q, false);
        }
        checks.due("the others lead to 0 in each order", x.minds(), SwapSteps.NONE);
    }

    /** "It MINDS a FREE pair": no other one. */
    private static void mindsJustFreePairs() {
        for (int k = 2; k <= 6; k++) {
            SwapSteps x = Checks.made("letters " + k);
            x.reader(3, 0);
            for (int letter = 0; letter <= 5; letter++) {
                x.move(0, letter, 1 + letter % 2);
            }
            checks.due("nothing is free", x.minds(), SwapSteps.NONE);
            x.free(k - 2, k - 1, true);
            checks.due("the last two", x.minds(), 8 * (k - 2) + k - 1);
            Checks.tell(x, "letters " + k);
            checks.due("nothing is free any more", x.minds(), SwapSteps.NONE);
        }
    }

    private static void mindsInStatesThatNoneComesTo() {
        SwapSteps x = new SwapSteps();
        x.free(0, 1, true);
        x.reader(5, 0);
        x.move(4, 0, 3);
        x.move(3, 1, 2);
        checks.due("state 4", x.minds(), 64 * 4 + 1);
        x.reader(4, 0);
        checks.due("there is no state 4", x.minds(), SwapSteps.NONE);
        x.reader(5, 0);
        checks.due("its moves are gone", x.minds(), SwapSteps.NONE);
    }

    /** "(what 0) .. (1; 1, 0). UNKNOWN; OUTSIDE." */
    private static void runOfWhat0And1() {
        SwapSteps x = new SwapSteps();
        x.reader(2, 2);
        x.move(0, 1, 1);
        x.add(0, 1);
        checks.due("what 0", x.run(0, 0), 1);
        checks.due("what 1", x.run(0, 1), 1);
        for (int what : new int[] {-1, 2, MIN, MAX}) {
            checks.due("what " + what, x.run(0, what), SwapSteps.OUTSIDE);
        }
        for (int h : new int[] {-1, 4, MIN, MAX}) {
            checks.due("heap " + h, x.run(h, 0), SwapSteps.UNKNOWN);
            checks.due("heap " + h, x.run(h, 1), SwapSteps.UNKNOWN);
        }
    }

    /** "behind the LEAST ROW of a HEAP": of none, of each length. */
    private static void runOf0To24Letters() {
        SwapSteps x = new SwapSteps();
        x.reader(5, 16);
        for (int state = 0; state < 5; state++) {
            x.move(state, 0, (state + 1) % 5);
        }
        for (int n = 0; n <= 24; n++) {
            checks.due("behind " + n, x.run(3, 0), n % 5);
            checks.due("takes behind " + n, x.run(3, 1), n % 5 == 4 ? 1 : 0);
            x.add(3, 0);
        }
        // the row as told leads elsewhere than the least row does
        SwapSteps y = Checks.made("letters 6;free af;heap 0 is " + "f".repeat(23) + "a");
        y.reader(3, 4);
        y.move(0, 5, 1);
        y.move(0, 0, 2);
        checks.due("a comes first", y.run(0, 0), 2);
        checks.due("a comes first", y.run(0, 1), 1);
        y.free(0, 5, false);
        checks.due("f comes first", y.run(0, 0), 1);
        checks.due("f comes first", y.run(0, 1), 0);
    }

    private static void takesByEachState() {
        for (int takes = 0; takes < 32; takes++) {
            SwapSteps x = new SwapSteps();
            x.reader(5, takes);
            for (int state = 0; state < 5; state++) {
                x.move(state, 2, (state + 1) % 5);
            }
            Checks.tell(x, "letters 1");
            checks.due("the empty heap in state 0", x.taken(0), takes & 1);
            checks.due("a leads nowhere else", x.taken(60), takes & 1);
            Checks.tell(x, "letters 3");
            // c as often as not: by how many of the rows of two have none, one, two
            int want = 4 * (takes & 1) + 4 * (takes >> 1 & 1) + (takes >> 2 & 1);
            checks.due("rows of two", x.taken(2), want);
        }
    }

    /** "TAKEN of a length (0 .. 60)"; "OUTSIDE". */
    private static void takenOf0To60() {
        SwapSteps x = Checks.made("letters 1");
        x.reader(5, 17);
        for (int state = 0; state < 5; state++) {
            x.move(state, 0, (state + 1) % 5);
        }
        for (int n = 0; n <= 60; n++) {
            checks.due("taken " + n, x.taken(n), n % 5 == 0 || n % 5 == 4 ? 1 : 0);
        }
        for (int n : new int[] {-1, 61, 62, MIN, MAX}) {
            checks.due("taken " + n, x.taken(n), SwapSteps.OUTSIDE);
        }
    }

    /** "how many HEAPS it TAKES": all that there are, if all states take; none, if none does. */
    private static void takenOfAllAndNone() {
        String[] texts = {"letters 1", "letters 2;free ab", "letters 6", "letters 6;free af;free bf;free ab;free ce"};
        for (String text : texts) {
            for (int n = 1; n <= 5; n++) {
                SwapSteps x = Checks.made(text);
                x.reader(n, (1 << n) - 1);
                for (int state = 0; state < n; state++) {
                    x.move(state, state, (state + 2) % n);
                    x.move(state, 5, (state + 1) % n);
                }
                for (int length = 0; length <= 60; length++) {
                    checks.due(text + ": all of " + length, x.taken(length), x.many(length));
                }
                x.reader(n, 0);
                checks.due(text + ": none", x.taken(60), 0);
            }
        }
    }

    /** All free: a heap is how many it has of each letter; those with so many of one, by five, are taken. */
    private static void takenOfFreeOnes() {
        for (int k = 1; k <= 6; k++) {
            SwapSteps all = Checks.allFree(k);
            all.reader(1, 1);
            for (int n = 0; n <= 60; n++) {
                checks.due(k + " free: all of " + n, all.taken(n), all.many(n));
            }
            for (int letter = 0; letter < k; letter++) {
                for (int rest = 0; rest < 5; rest++) {
                    SwapSteps x = Checks.allFree(k);
                    x.reader(5, 1 << rest);
                    for (int state = 0; state < 5; state++) {
                        x.move(state, letter, (state + 1) % 5);
                    }
                    for (int n = 0; n <= 60; n++) {
                        checks.due(k + " free: letter " + letter + ", rest " + rest + " of " + n, x.taken(n), ofRest(k, n, rest));
                    }
                }
            }
        }
    }

    /** How many rows of k counts with sum n have a first one that leaves this rest by five. */
    private static long ofRest(int k, int n, int rest) {
        long heaps = 0;
        for (int first = rest; first <= n; first += 5) {
            heaps += rowsOfCounts(k - 1, n - first);
        }
        return heaps;
    }

    /** How many rows of k counts with sum n there are. */
    private static long rowsOfCounts(int k, int n) {
        if (k == 0) {
            return n == 0 ? 1 : 0;
        }
        long rows = 1;
        for (int i = 1; i < k; i++) {
            rows = rows * (n + i) / i;
        }
        return rows;
    }

    /** "modulo 1000000007": the last power of two below it and the first beyond. */
    private static void takenModulo() {
        SwapSteps x = Checks.made("letters 2");
        x.reader(1, 1);
        checks.due("2 to the 29th", x.taken(29), 536870912);
        checks.due("2 to the 30th", x.taken(30), 73741817);
        // an even number of b: half of all
        x.reader(2, 1);
        x.move(0, 1, 1);
        x.move(1, 1, 0);
        checks.due("2 to the 29th", x.taken(30), 536870912);
        checks.due("2 to the 30th", x.taken(31), 73741817);
        // both states take: their sum, too, is told modulo that number
        x.reader(2, 3);
        x.move(0, 1, 1);
        x.move(1, 1, 0);
        checks.due("2 to the 30th", x.taken(30), 73741817);
    }
}
