/** What the tests have in common: counting wrong answers, telling texts and heaps. */
final class Checks {
    private int run = 0;
    private int wrong = 0;

    void due(String call, long got, long want) {
        run++;
        if (got != want) {
            wrong++;
            System.out.println(call + " answered " + got + ", due is " + want);
        }
    }

    /** Ends the test, with exit code 1 if an answer was wrong. */
    void finish() {
        System.out.println(wrong + " of " + run + " answers are wrong");
        if (wrong != 0 || run == 0) {
            System.exit(1);
        }
    }

    /** Writes a text of characters 0 to 255 behind the object's text. */
    static void write(SwapSteps x, String text) {
        for (int from = 0; from < text.length(); from += 8) {
            int n = Math.min(8, text.length() - from);
            long bytes = 0;
            for (int i = 0; i < n; i++) {
                bytes |= (long) text.charAt(from + i) << 8 * i;
            }
            x.write(bytes, n);
        }
    }

    /** A new object to which a text was told. */
    static SwapSteps made(String text) {
        SwapSteps x = new SwapSteps();
        if (tell(x, text) < 0) {
            throw new IllegalArgumentException("a fault in " + text);
        }
        return x;
    }

    /** A new object of so many letters, all of them free. */
    static SwapSteps allFree(int letters) {
        SwapSteps x = made("letters " + letters);
        for (int p = 0; p < letters; p++) {
            for (int q = p + 1; q < letters; q++) {
                x.free(p, q, true);
            }
        }
        return x;
    }

    /** Tells a text to the object: the answer of told. */
    static int tell(SwapSteps x, String text) {
        x.erase();
        write(x, text);
        return x.told();
    }

    /** The fault of a text, written anew. */
    static int fault(SwapSteps x, String text) {
        x.erase();
        write(x, text);
        return x.fault();
    }

    static void setHeap(SwapSteps x, int heap, String word) {
        x.clear(heap);
        for (int i = 0; i < word.length(); i++) {
            x.add(heap, word.charAt(i) - 'a');
        }
    }

    /** A heap's row as it is told (what 0), or its least row (1). */
    static String row(SwapSteps x, int heap, int what) {
        StringBuilder row = new StringBuilder();
        for (int i = 0; i < 24; i++) {
            int letter = x.letter(heap, i, what);
            if (letter < 0) {
                break;
            }
            row.append((char) ('a' + letter));
        }
        return row.toString();
    }

    void dueRow(String call, SwapSteps x, int heap, String want) {
        String got = row(x, heap, 0);
        run++;
        if (!got.equals(want)) {
            wrong++;
            System.out.println(call + " made " + got + ", due is " + want);
        }
    }
}
