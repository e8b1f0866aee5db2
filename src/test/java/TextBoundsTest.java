/** The bounds that the terms tell of THE TEXT and promises 1 to 5, a test for each sentence. */
public final class TextBoundsTest {
    private static final Checks checks = new Checks();

    public static void main(String[] args) {
        textOf160Bytes();
        bytesOfOneWrite();
        byteIIsBytesShiftedBy8I();
        eraseOfNoneAndAll();
        linesWithSemicolonsBetween();
        linesAre16AtMost();
        pairsOfUnlikeLettersThatThereAre();
        numbersOfLetters();
        numbersOfHeaps();
        wordsOf1To24Letters();
        tokensEndAtAnyOtherByte();
        tokensBeginWithAnyByte();
        blanksBetween();
        faultAtTheEndIfItComesTooSoon();
        faultIsTheFirst();
        lettersThatThereAreByTheLastLineAhead();
        linesAreDoneInTheirOrder();
        lettersLineEmptiesAll();
        toldCountsLines();
        checks.finish();
    }

    private static void dueFault(String text, int place) {
        SwapSteps x = new SwapSteps();
        checks.due("fault of '" + text + "'", Checks.fault(x, text), place);
        boolean isOfAll = x.count(2) == text.length();
        checks.due("the text '" + text + "' is whole", isOfAll ? 1 : 0, 1);
        checks.due("told of '" + text + "' is refused", x.told() == SwapSteps.NOT ? 1 : 0, place == SwapSteps.NONE ? 0 : 1);
    }

    /** "THE TEXT is a row of bytes, 160 at most"; "how many it has"; "FULL". */
    private static void textOf160Bytes() {
        for (int n = 1; n <= 8; n++) {
            SwapSteps x = new SwapSteps();
            Checks.write(x, " ".repeat(160 - n));
            checks.due("the last " + n + " of 160", x.write(0, n), 160);
            checks.due("the 161st byte", x.write(0, 1), SwapSteps.FULL);
            checks.due("160 and 8", x.write(0, 8), SwapSteps.FULL);
            checks.due("still 160", x.count(2), 160);
            SwapSteps y = new SwapSteps();
            Checks.write(y, " ".repeat(161 - n));
            checks.due("one too many", y.write(0, n), SwapSteps.FULL);
            checks.due("none of them is written", y.count(2), 161 - n);
            if (n > 1) {
                checks.due("one fewer fits", y.write(0, n - 1), 160);
            }
        }
    }

    /** "n (1 .. 8) bytes more": the first and last that are taken, the next on each side. */
    private static void bytesOfOneWrite() {
        SwapSteps x = new SwapSteps();
        checks.due("n 0", x.write(-1, 0), SwapSteps.OUTSIDE);
        checks.due("n -1", x.write(-1, -1), SwapSteps.OUTSIDE);
        checks.due("n least", x.write(-1, Integer.MIN_VALUE), SwapSteps.OUTSIDE);
        checks.due("n 9", x.write(-1, 9), SwapSteps.OUTSIDE);
        checks.due("n greatest", x.write(-1, Integer.MAX_VALUE), SwapSteps.OUTSIDE);
        checks.due("none is written", x.count(2), 0);
        int size = 0;
        for (int n = 1; n <= 8; n++) {
            size += n;
            checks.due("n " + n, x.write(-1, n), size);
        }
    }

    /** "byte i being bytes >> 8 i & 255": the first and the last of 8, those above n left out, the sign no sign. */
    private static void byteIIsBytesShiftedBy8I() {
        long freeAbThenByte = 0x0062612065657266L;
        for (int last = 0; last < 256; last++) {
            SwapSteps x = new SwapSteps();
            x.write(freeAbThenByte | (long) last << 56, 8);
            checks.due("byte 7 is " + last, x.fault(), placeOfFaultBehind("free ab", 5, last));
            SwapSteps y = new SwapSteps();
            y.write(freeAbThenByte | (long) last << 56, 7);
            checks.due("byte 7 is left out", y.fault(), SwapSteps.NONE);
            SwapSteps z = new SwapSteps();
            z.write(last, 1);
            z.write(freeAbThenByte, 7);
            checks.due("byte 0 is " + last, z.fault(), last == ' ' ? SwapSteps.NONE : 0);
        }
        SwapSteps x = new SwapSteps();
        x.write(0xFFFFFFFFFFFFFF66L, 1);
        x.write(0x8080808080656572L, 3);
        x.write(0x80808080806261L << 8 | ' ', 3);
        checks.due("what lies above is left out", x.fault(), SwapSteps.NONE);
    }

    /** Where the fault is, when this byte comes behind a text whose last token, of small letters, begins there. */
    private static int placeOfFaultBehind(String text, int token, int b) {
        if (b == ' ') {
            return SwapSteps.NONE;
        }
        if (b >= 'a' && b <= 'z') {
            return token;
        }
        return b == ';' ? text.length() + 1 : text.length();
    }

    /** "THE TEXT is empty: how many bytes it had": none, one, all. */
    private static void eraseOfNoneAndAll() {
        SwapSteps x = new SwapSteps();
        checks.due("none", x.erase(), 0);
        x.write('x', 1);
        checks.due("one", x.erase(), 1);
        Checks.write(x, "x".repeat(160));
        checks.due("all", x.erase(), 160);
        checks.due("empty then", x.count(2), 0);
        checks.due("none again", x.erase(), 0);
        Checks.write(x, "free ab" + " ".repeat(153));
        checks.due("160 fit again", x.count(2), 160);
        checks.due("nothing is left of the old ones", x.fault(), SwapSteps.NONE);
    }

    /** "LINES with ; (59) between". */
    private static void linesWithSemicolonsBetween() {
        dueFault("free ab;free ac", SwapSteps.NONE);
        dueFault("free ab:free ac", 7);
        dueFault("free ab<free ac", 7);
        dueFault("free ab,free ac", 7);
        dueFault("free ab free ac", 8);
        dueFault("free ab;", 8);
        dueFault("free ab;  ", 10);
        dueFault(";free ab", 0);
        dueFault(" ; free ab", 1);
        dueFault("free ab;;free ac", 8);
        dueFault("free ab; ; free ac", 9);
        dueFault(";", 0);
    }

    private static String lines(int n) {
        return "free ab;".repeat(n - 1) + "free ab";
    }

    /** "16 at most". */
    private static void linesAre16AtMost() {
        for (int n = 1; n <= 16; n++) {
            dueFault(lines(n), SwapSteps.NONE);
            checks.due("told of " + n + " lines", Checks.tell(new SwapSteps(), lines(n)), n);
        }
        dueFault(lines(17), 127);
        dueFault(lines(18), 127);
        dueFault(lines(20), 127);
        dueFault(lines(16) + ";", 127);
        dueFault(lines(16) + "  ; ", 129);
        dueFault(lines(16) + " ".repeat(33), SwapSteps.NONE);
        dueFault(lines(16) + " ".repeat(32) + ";", 159);
        dueFault(lines(16) + "x", 125);
        dueFault(lines(16) + " x", 128);
        dueFault(lines(15) + ";free bb;free ab", 125);
        dueFault(lines(15) + ";", 120);
    }

    /** "p, q unlike LETTERS that there are": all pairs of small letters, by how many there are. */
    private static void pairsOfUnlikeLettersThatThereAre() {
        for (int k = 1; k <= 6; k++) {
            for (char p = 'a'; p <= 'z'; p++) {
                SwapSteps x = new SwapSteps();
                for (char q = 'a'; q <= 'z'; q++) {
                    boolean stands = p != q && p < 'a' + k && q < 'a' + k;
                    String pair = "" + p + q;
                    checks.due(k + ": free " + pair, Checks.fault(x, "letters " + k + ";free " + pair), stands ? SwapSteps.NONE : 15);
                    checks.due(k + ": bound " + pair, Checks.fault(x, "letters " + k + ";bound " + pair), stands ? SwapSteps.NONE : 16);
                }
            }
        }
        dueFault("free a", 5);
        dueFault("free abc", 5);
        dueFault("free abca", 5);
        dueFault("bound a", 6);
        dueFault("bound aba", 6);
        dueFault("free a b", 5);
        dueFault("free `a", 5);
        dueFault("free {a", 5);
        dueFault("free a`", 5);
        dueFault("free AB", 5);
        dueFault("free 01", 5);
        dueFault("free a1", 5);
    }

    /** "K 1 .. 6"; "numbers of 1 digit"; "a number out of its bounds, or of more digits, also". */
    private static void numbersOfLetters() {
        for (int k = 0; k <= 9; k++) {
            dueFault("letters " + k, k >= 1 && k <= 6 ? SwapSteps.NONE : 8);
        }
        for (int k = 0; k <= 99; k++) {
            dueFault("letters " + k / 10 + k % 10, 8);
        }
        dueFault("letters 003", 8);
        dueFault("letters 4294967299", 8);
        dueFault("letters " + "0".repeat(80) + "3", 8);
        dueFault("letters /", 8);
        dueFault("letters :", 8);
        dueFault("letters -1", 8);
        dueFault("letters +3", 8);
        dueFault("letters a", 8);
        dueFault("letters 3 3", 10);
    }

    /** "H 0 .. 3", of one digit. */
    private static void numbersOfHeaps() {
        for (int h = 0; h <= 9; h++) {
            dueFault("heap " + h + " is a", h <= 3 ? SwapSteps.NONE : 5);
            dueFault("heap " + h + " is none", h <= 3 ? SwapSteps.NONE : 5);
        }
        for (int h = 0; h <= 99; h++) {
            dueFault("heap " + h / 10 + h % 10 + " is a", 5);
        }
        dueFault("heap 4294967296 is a", 5);
        dueFault("heap / is a", 5);
        dueFault("heap : is a", 5);
        dueFault("heap -1 is a", 5);
        dueFault("heap a is a", 5);
    }

    /** "w a word of 1 to 24 LETTERS that there are"; "heap H is none". */
    private static void wordsOf1To24Letters() {
        for (int n = 1; n <= 24; n++) {
            String word = "abcabcabcabcabcabcabcabc".substring(24 - n);
            dueFault("heap 3 is " + word, SwapSteps.NONE);
            SwapSteps x = Checks.made("heap 3 is " + word);
            checks.due("heap of " + n, x.count(6), n);
            checks.dueRow("heap of " + n, x, 3, word);
            for (int i = 0; i < n; i++) {
                dueFault("heap 3 is " + word.substring(0, i) + 'd' + word.substring(i + 1), 10);
            }
        }
        for (int n = 25; n <= 150; n += 25) {
            dueFault("heap 3 is " + "a".repeat(n), 10);
        }
        for (int k = 1; k <= 6; k++) {
            for (char letter = 'a'; letter <= 'z'; letter++) {
                dueFault("letters " + k + ";heap 0 is " + letter, letter < 'a' + k ? SwapSteps.NONE : 20);
            }
        }
        dueFault("heap 0 is ", 10);
        dueFault("heap 0 is none", SwapSteps.NONE);
        dueFault("letters 1;heap 0 is none", SwapSteps.NONE);
        dueFault("heap 0 is non", 10);
        dueFault("heap 0 is nonea", 10);
        dueFault("heap 0 is anone", 10);
        dueFault("heap 0 is a none", 12);
        dueFault("heap 0 is none a", 15);
        dueFault("heap 0 none", 7);
        dueFault("heap 0 are a", 7);
        dueFault("heap 0 i a", 7);
        dueFault("heap 0 iss a", 7);
        dueFault("heap is a", 5);
    }

    /** "a row of small letters, a row of digits, any other byte": each byte behind each kind of token. */
    private static void tokensEndAtAnyOtherByte() {
        for (int b = 0; b < 256; b++) {
            char sign = (char) b;
            boolean isSmall = b >= 'a' && b <= 'z';
            boolean isDigit = b >= '0' && b <= '9';
            dueFault("free ab" + sign, placeOfFaultBehind("free ab", 5, b));
            dueFault("bound ab" + sign, placeOfFaultBehind("bound ab", 6, b));
            dueFault("heap 1 is none" + sign, placeOfFaultBehind("heap 1 is none", 10, b));
            boolean isLetter = b >= 'a' && b <= 'c';
            dueFault("heap 1 is ab" + sign, isLetter ? SwapSteps.NONE : placeOfFaultBehind("heap 1 is ab", 10, b));
            int behindNumber = b == ' ' ? SwapSteps.NONE : b == ';' ? 10 : 9;
            dueFault("letters 3" + sign, isDigit ? 8 : behindNumber);
            dueFault("free" + sign + "ab", b == ' ' ? SwapSteps.NONE : isSmall ? 0 : 4);
            dueFault("letters" + sign + "3", b == ' ' ? SwapSteps.NONE : isSmall ? 0 : 7);
            dueFault("heap" + sign + "1 is a", b == ' ' ? SwapSteps.NONE : isSmall ? 0 : 4);
            dueFault("heap 1" + sign + "is a", b == ' ' ? SwapSteps.NONE : isDigit ? 5 : 6);
            dueFault("heap 1 is" + sign + "a", b == ' ' ? SwapSteps.NONE : isSmall ? 7 : 9);
        }
    }

    /** Each byte where a line, a pair, a number, a word or the word is has to stand. */
    private static void tokensBeginWithAnyByte() {
        for (int b = 0; b < 256; b++) {
            char sign = (char) b;
            boolean isBlank = b == ' ';
            dueFault(sign + "", isBlank ? 1 : 0);
            dueFault(sign + "free ab", isBlank ? SwapSteps.NONE : 0);
            dueFault("free ab;" + sign, isBlank ? 9 : 8);
            dueFault("free " + sign, isBlank ? 6 : 5);
            boolean isCount = b >= '1' && b <= '6';
            dueFault("letters " + sign, isCount ? SwapSteps.NONE : isBlank ? 9 : 8);
            boolean isHeap = b >= '0' && b <= '3';
            dueFault("heap " + sign, isHeap || isBlank ? 6 : 5);
            dueFault("heap 0 " + sign, isBlank ? 8 : 7);
            boolean isLetter = b >= 'a' && b <= 'c';
            dueFault("heap 0 is " + sign, isLetter ? SwapSteps.NONE : isBlank ? 11 : 10);
        }
    }

    /** "blanks (32) between": none where tokens part by themselves, many, ahead and behind. */
    private static void blanksBetween() {
        dueFault("letters3;heap0is a;free ab", SwapSteps.NONE);
        dueFault("  letters   3  ;  heap   0   is   a  ;  free   ab  ", SwapSteps.NONE);
        dueFault("freeab", 0);
        dueFault("heap0isa", 5);
        dueFault("heap 0 isnone", 7);
        dueFault("letters 1 2", 10);
        dueFault("heap 0 0 is a", 7);
        dueFault("heap 0 i s a", 7);
        dueFault("heap 0 is a a", 12);
        dueFault("fr ee ab", 0);
        dueFault(" ".repeat(153) + "free ab", SwapSteps.NONE);
        dueFault("free" + " ".repeat(154) + "ab", SwapSteps.NONE);
        dueFault("free ab" + " ".repeat(153), SwapSteps.NONE);
    }

    /** "or at the end, if it comes too soon": "or the length". */
    private static void faultAtTheEndIfItComesTooSoon() {
        dueFault("", 0);
        dueFault(" ", 1);
        dueFault(" ".repeat(160), 160);
        String[] heads = {"", "  ", "free ab;", "letters 6 ; heap 2 is none; "};
        String[] cutShort = {"free", "bound", "letters", "heap", "heap 0", "heap 3 is"};
        for (String head : heads) {
            for (String line : cutShort) {
                dueFault(head + line, head.length() + line.length());
                dueFault(head + line + "   ", head.length() + line.length() + 3);
                dueFault(head + line + ";", head.length() + line.length());
                dueFault(head + line + " ;free ab", head.length() + line.length() + 1);
            }
            dueFault(head, head.length());
        }
        // the text is full, and its end still comes too soon
        dueFault("free ab" + " ".repeat(152) + ";", 160);
        dueFault("free" + " ".repeat(156), 160);
        dueFault("free" + " ".repeat(155) + "a", 159);
        // a token that is cut off stands nowhere
        dueFault("fre", 0);
        dueFault("boun", 0);
        dueFault("letter", 0);
        dueFault("hea", 0);
        dueFault("free a", 5);
        dueFault("heap 0 i", 7);
        dueFault("heap 0 is non", 10);
    }

    /** "The place of the FAULT (the byte with which the TOKEN begins ..)": of two faults the first. */
    private static void faultIsTheFirst() {
        dueFault("free aa;free bb", 5);
        dueFault("free ab;free bb;letters 9", 13);
        dueFault("letters 7;heap 4 is a", 8);
        dueFault("heap 4 is d", 5);
        dueFault("heap 3 si d", 7);
        dueFault("free ab free aa;free", 8);
        dueFault("free ab;free ab;" + "x".repeat(144), 16);
        dueFault("free ab" + " ".repeat(152) + "x", 159);
        dueFault("x" + " ".repeat(159), 0);
    }

    /** "(The LETTERS that there are: by the last letters LINE ahead, or as they are.)" */
    private static void lettersThatThereAreByTheLastLineAhead() {
        dueFault("free cd", 5);
        dueFault("free bc", SwapSteps.NONE);
        dueFault("letters 4;free cd", SwapSteps.NONE);
        dueFault("free cd;letters 4", 5);
        dueFault("letters 2;free bc", 15);
        dueFault("free bc;letters 2", SwapSteps.NONE);
        dueFault("letters 6;letters 1;heap 0 is b", 30);
        dueFault("letters 1;letters 6;heap 0 is f", SwapSteps.NONE);
        dueFault("letters 2;heap 0 is b;letters 1;heap 0 is b", 42);
        SwapSteps x = Checks.made("letters 5");
        checks.due("as they are: e", Checks.fault(x, "free ae"), SwapSteps.NONE);
        checks.due("as they are: f", Checks.fault(x, "free af"), 5);
        checks.due("a line ahead", Checks.fault(x, "letters 6;free af"), SwapSteps.NONE);
        checks.due("fault does no line", x.count(0), 5);
        checks.due("as they are still", Checks.fault(x, "free af"), 5);
        checks.due("told in vain", Checks.tell(x, "letters 6;free af;free"), SwapSteps.NOT);
        checks.due("as they are still", Checks.fault(x, "free af"), 5);
    }

    /** "LINES are done in their order: pq is FREE; is not; .. a HEAP is that." */
    private static void linesAreDoneInTheirOrder() {
        checks.due("free last", Checks.made("bound ab;free ab").count(1), 1);
        checks.due("bound last", Checks.made("free ab;bound ba").count(1), 0);
        checks.due("free twice", Checks.made("free ab;free ba").count(1), 1);
        checks.due("letters last", Checks.made("free ab;heap 0 is ab;letters 3").count(1), 0);
        checks.due("free behind letters", Checks.made("letters 3;free ab").count(1), 1);
        checks.due("none last", Checks.made("heap 0 is ab;heap 0 is none").count(3), 0);
        checks.due("a word last", Checks.made("heap 0 is none;heap 0 is abc").count(3), 3);
        checks.due("no letters behind those that it had", Checks.made("heap 0 is abc;heap 0 is a").count(3), 1);
        checks.due("the last of more", Checks.made("letters 6;letters 2;letters 4").count(0), 4);
        SwapSteps x = Checks.made("heap 0 is a;heap 1 is bb;heap 2 is ccc;heap 3 is abca");
        for (int heap = 0; heap <= 3; heap++) {
            checks.due("heap " + heap, x.count(3 + heap), heap + 1);
        }
    }

    /** "there are K LETTERS, nothing FREE, all HEAPS empty": for as many as there were, too; nothing else. */
    private static void lettersLineEmptiesAll() {
        for (int k = 1; k <= 6; k++) {
            SwapSteps x = Checks.made("letters 6;free ab;free ef;heap 0 is f;heap 1 is a;heap 2 is abcdef;heap 3 is " + "c".repeat(24));
            x.reader(2, 2);
            x.move(0, 5, 1);
            checks.due("letters " + k, Checks.tell(x, "letters " + k), 1);
            checks.due("letters", x.count(0), k);
            for (int what = 1; what <= 6; what++) {
                checks.due("letters " + k + ": count " + what, x.count(what), 0);
            }
            for (int p = 0; p < k; p++) {
                for (int q = p + 1; q < k; q++) {
                    checks.due("nothing is free", x.free(p, q, false), 0);
                }
            }
            checks.due("the reader stays", x.move(0, 5, 1), 1);
            checks.due("the reader has both states", x.move(1, 0, 0), 1);
        }
    }

    /** "how many there were"; "it is empty then"; "NOT: it has a FAULT". */
    private static void toldCountsLines() {
        SwapSteps x = new SwapSteps();
        checks.due("an empty text has a fault", x.told(), SwapSteps.NOT);
        checks.due("one", Checks.tell(x, "free ab"), 1);
        checks.due("empty then", x.count(2), 0);
        checks.due("an empty text has a fault again", x.told(), SwapSteps.NOT);
        checks.due("16 in 160 bytes", Checks.tell(x, lines(16) + " ".repeat(33)), 16);
        checks.due("empty then", x.erase(), 0);
        checks.due("a fault in the last", Checks.tell(x, "letters 6;free ef;free ff"), SwapSteps.NOT);
        checks.due("no line is done", x.count(0), 3);
        checks.due("the text stays", x.erase(), 25);
    }
}
