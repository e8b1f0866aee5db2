/** Promises 2 to 5: write, erase, fault, told. */
public final class TextTest {
    private static final Checks checks = new Checks();

    public static void main(String[] args) {
        writes();
        erases();
        faultsOfPairs();
        faultsOfLetters();
        faultsOfHeaps();
        faultsOfLines();
        tells();
        checks.finish();
    }

    private static void writes() {
        SwapSteps x = new SwapSteps();
        checks.due("write n 0", x.write(0, 0), SwapSteps.OUTSIDE);
        checks.due("write n 9", x.write(0, 9), SwapSteps.OUTSIDE);
        checks.due("write n least", x.write(0, Integer.MIN_VALUE), SwapSteps.OUTSIDE);
        checks.due("write n greatest", x.write(0, Integer.MAX_VALUE), SwapSteps.OUTSIDE);
        checks.due("count of none", x.count(2), 0);
        for (int i = 1; i <= 19; i++) {
            checks.due("write 8", x.write(0x2020202020202020L, 8), 8 * i);
        }
        checks.due("write to 159", x.write(0x20202020202020L, 7), 159);
        checks.due("write beyond", x.write(0x2020, 2), SwapSteps.FULL);
        checks.due("write n ahead of full", x.write(0, 9), SwapSteps.OUTSIDE);
        checks.due("nothing changed", x.count(2), 159);
        checks.due("write the last", x.write(' ', 1), 160);
        checks.due("write one more", x.write(' ', 1), SwapSteps.FULL);
        checks.due("fault at the end", x.fault(), 160);
        x.erase();
        // the low byte comes first; what lies above the n bytes is not written
        checks.due("write free", x.write(0x7A7A7A7A65657266L, 4), 4);
        checks.due("write  ab", x.write(0xFF626120L, 3), 7);
        checks.due("fault", x.fault(), SwapSteps.NONE);
        checks.due("write high byte", x.write(-1L, 8), 15);
        checks.due("fault at a high byte", x.fault(), 7);
    }

    private static void erases() {
        SwapSteps x = new SwapSteps();
        checks.due("erase nothing", x.erase(), 0);
        Checks.write(x, "free ab;");
        checks.due("erase", x.erase(), 8);
        checks.due("erased", x.count(2), 0);
        checks.due("erase again", x.erase(), 0);
    }

    private static void dueFault(SwapSteps x, String text, int place) {
        checks.due("fault of '" + text + "'", Checks.fault(x, text), place);
    }

    private static void faultsOfPairs() {
        SwapSteps x = new SwapSteps();
        dueFault(x, "free ab", SwapSteps.NONE);
        dueFault(x, "free ba", SwapSteps.NONE);
        dueFault(x, "bound cb", SwapSteps.NONE);
        dueFault(x, "  bound   ac  ", SwapSteps.NONE);
        dueFault(x, "free aa", 5);
        dueFault(x, "free ad", 5);
        dueFault(x, "free da", 5);
        dueFault(x, "free a", 5);
        dueFault(x, "free abc", 5);
        dueFault(x, "free a b", 5);
        dueFault(x, "free ab c", 8);
        dueFault(x, "free ab free bc", 8);
        dueFault(x, "freeab", 0);
        dueFault(x, "free", 4);
        dueFault(x, "free  ", 6);
        dueFault(x, "free;", 4);
        dueFault(x, "free 12", 5);
        dueFault(x, "free aB", 5);
        dueFault(x, "free ab.", 7);
        dueFault(x, "free ab7", 7);
        dueFault(x, "fre ab", 0);
        dueFault(x, "frees ab", 0);
        dueFault(x, "freez ab", 0);
        dueFault(x, "free`ab", 4);
        dueFault(x, "free{ab", 4);
        dueFault(x, "Free ab", 0);
        dueFault(x, "boun ab", 0);
        dueFault(x, "bound bb", 6);
        dueFault(x, "free\tab", 4);
    }

    private static void faultsOfLetters() {
        SwapSteps x = new SwapSteps();
        for (int k = 1; k <= 6; k++) {
            dueFault(x, "letters " + k, SwapSteps.NONE);
        }
        dueFault(x, "letters4", SwapSteps.NONE);
        dueFault(x, "letters 0", 8);
        dueFault(x, "letters 7", 8);
        dueFault(x, "letters 9", 8);
        dueFault(x, "letters 04", 8);
        dueFault(x, "letters 44", 8);
        dueFault(x, "letters 4/", 9);
        dueFault(x, "letters 4:", 9);
        dueFault(x, "letters 40", 8);
        dueFault(x, "letters 49", 8);
        dueFault(x, "letters 4 4", 10);
        dueFault(x, "letters 4a", 9);
        dueFault(x, "letters", 7);
        dueFault(x, "letters d", 8);
        dueFault(x, "letters -1", 8);
        dueFault(x, "letters 4;free ad", SwapSteps.NONE);
        dueFault(x, "letters 4;free ae", 15);
        dueFault(x, "free ad;letters 4", 5);
        dueFault(x, "letters 2;free ac", 15);
        dueFault(x, "letters 2;letters 4;free ad", SwapSteps.NONE);
        dueFault(x, "letters 4;letters 2;heap 0 is abc", 30);
        dueFault(x, "heap 0 is abc;letters 2;heap 0 is ab", SwapSteps.NONE);
        checks.due("fault changes no letters", x.count(0), 3);
    }

    private static void faultsOfHeaps() {
        SwapSteps x = new SwapSteps();
        String most = "abcabcabcabcabcabcabcabc";
        dueFault(x, "heap 0 is a", SwapSteps.NONE);
        dueFault(x, "heap 3 is " + most, SwapSteps.NONE);
        dueFault(x, "heap 3 is " + most + "a", 10);
        dueFault(x, "heap 2 is none", SwapSteps.NONE);
        dueFault(x, "heap 2 is nones", 10);
        dueFault(x, "heap 2 is non", 10);
        dueFault(x, "heap2is none", SwapSteps.NONE);
        dueFault(x, "heap2isnone", 5);
        dueFault(x, "heap 4 is a", 5);
        dueFault(x, "heap 00 is a", 5);
        dueFault(x, "heap a is a", 5);
        dueFault(x, "heap is a", 5);
        dueFault(x, "heap 0 a", 7);
        dueFault(x, "heap 0 is", 9);
        dueFault(x, "heap 0 is  ", 11);
        dueFault(x, "heap 0 is;", 9);
        dueFault(x, "heap 0", 6);
        dueFault(x, "heap", 4);
        dueFault(x, "heap 0 is abd", 10);
        dueFault(x, "heap 0 is ab c", 13);
        dueFault(x, "heap 0 is 1", 10);
        dueFault(x, "heap 0 is abc1", 13);
        dueFault(x, "heap 0 is none none", 15);
    }

    private static void faultsOfLines() {
        SwapSteps x = new SwapSteps();
        dueFault(x, "", 0);
        dueFault(x, "   ", 3);
        dueFault(x, ";", 0);
        dueFault(x, " ;", 1);
        dueFault(x, "free ab;", 8);
        dueFault(x, "free ab; ", 9);
        dueFault(x, "free ab;;free bc", 8);
        dueFault(x, "free ab ; free bc", SwapSteps.NONE);
        dueFault(x, "free ab:free bc", 7);
        dueFault(x, "7", 0);
        dueFault(x, "is", 0);
        StringBuilder lines = new StringBuilder("free ab");
        for (int i = 1; i < 16; i++) {
            lines.append(";free ab");
        }
        dueFault(x, lines.toString(), SwapSteps.NONE);
        dueFault(x, lines + ";", 127);
        dueFault(x, lines + "  ;free ab", 129);
    }

    private static void tells() {
        SwapSteps x = new SwapSteps();
        checks.due("told nothing", x.told(), SwapSteps.NOT);
        checks.due("told", Checks.tell(x, "free ab;free bc;bound ba;heap 0 is abc;heap 3 is none"), 5);
        checks.due("the text is empty", x.count(2), 0);
        checks.due("bc is free", x.count(1), 1);
        checks.due("which", x.free(1, 2, true), 1);
        checks.due("heap 0", x.count(3), 3);
        checks.dueRow("heap 0", x, 0, "abc");
        checks.due("a fault", Checks.tell(x, "heap 0 is none;free ac;free aa"), SwapSteps.NOT);
        checks.due("nothing was done", x.count(3) + x.count(1), 4);
        checks.due("the text is kept", x.count(2), 30);
        checks.due("told", Checks.tell(x, "heap 1 is ab;letters 5;heap 2 is ed"), 3);
        checks.due("letters", x.count(0), 5);
        checks.due("nothing free", x.count(1), 0);
        checks.due("empty 0", x.count(3), 0);
        checks.due("empty 1", x.count(4), 0);
        checks.dueRow("heap 2", x, 2, "ed");
        checks.due("letters as they are", Checks.tell(x, "free ab;letters 5"), 2);
        checks.due("nothing free", x.count(1) + x.count(5), 0);
        checks.due("the last line counts", Checks.tell(x, "free ab;bound ab;free ab;heap 0 is a;heap 0 is bb"), 5);
        checks.due("free", x.count(1), 1);
        checks.dueRow("heap 0", x, 0, "bb");
        checks.due("heap none", Checks.tell(x, "heap 0 is none"), 1);
        checks.due("heap none", x.count(3), 0);
        checks.due("bound what is bound", Checks.tell(x, "bound cd"), 1);
        checks.due("bound what is bound", x.count(1), 1);
    }
}
