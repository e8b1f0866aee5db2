import java.util.Arrays;

/** Letters of which some pairs may change places, and the heaps that their rows make. */
public final class SwapSteps {
    public static final int NONE = -1, UNKNOWN = -2, OUTSIDE = -3, NOT = -4, FULL = -5, SPENT = -6;

    private static final int MOST_LETTERS = 6;
    private static final int LETTERS_AT_FIRST = 3;
    private static final int SETS_OF_LETTERS = 1 << MOST_LETTERS;
    private static final int HEAPS = 4;
    private static final int LONGEST_ROW = 24;
    private static final int LONGEST_TEXT = 160;
    private static final int MOST_BYTES_AT_ONCE = 8;
    private static final int LONGEST_TURNED = 12;
    private static final int LONGEST_ORDERED = 20;
    private static final int LONGEST_COUNTED = 60;
    private static final int MOST_STATES = 5;
    private static final int MODULUS = 1000000007;

    private final Letters letters;
    private final Row[] heaps;
    private final Row leastRow;
    private final Text text;
    private final Lines lines;
    private final Heaps looks;
    private final Pairs pairs;
    private final Beginnings beginnings;
    private final Circle circle;
    private final Order order;
    private final Reader reader;

    public SwapSteps() {
        letters = new Letters();
        heaps = new Row[HEAPS];
        for (int i = 0; i < heaps.length; i++) {
            heaps[i] = new Row();
        }
        leastRow = new Row();
        text = new Text();
        lines = new Lines(text);
        looks = new Heaps(letters);
        pairs = new Pairs(looks);
        beginnings = new Beginnings(letters);
        circle = new Circle(letters, looks);
        order = new Order(letters);
        reader = new Reader(letters, order);
    }

    // ---- letters, heaps

    public int write(long bytes, int n) {
        if (n < 1 || n > MOST_BYTES_AT_ONCE) {
            return OUTSIDE;
        }
        if (text.size() + n > LONGEST_TEXT) {
            return FULL;
        }
        for (int i = 0; i < n; i++) {
            text.push((int) (bytes >> 8 * i & 255));
        }
        return text.size();
    }

    public int erase() {
        int had = text.size();
        text.wipe();
        return had;
    }

    public int fault() {
        return lines.read(letters.size());
    }

    public int told() {
        if (lines.read(letters.size()) != NONE) {
            return NOT;
        }
        int done = lines.size();
        for (int i = 0; i < done; i++) {
            doLine(lines.at(i));
        }
        text.wipe();
        return done;
    }

    public int free(int a, int b, boolean are) {
        if (!letters.has(a) || !letters.has(b) || a == b) {
            return UNKNOWN;
        }
        int were = yes(letters.areFree(a, b));
        letters.setFree(a, b, are);
        return were;
    }

    public int add(int heap, int letter) {
        Row row = heapAt(heap);
        if (row == null || !letters.has(letter)) {
            return UNKNOWN;
        }
        return row.push(letter) ? row.length() : FULL;
    }

    public int clear(int heap) {
        Row row = heapAt(heap);
        if (row == null) {
            return UNKNOWN;
        }
        int had = row.length();
        row.wipe();
        return had;
    }

    public int letter(int heap, int i, int what) {
        Row row = heapAt(heap);
        if (row == null) {
            return UNKNOWN;
        }
        if (i < 0 || what < 0 || what > 1) {
            return OUTSIDE;
        }
        if (what == 0) {
            return row.at(i);
        }
        looks.makeLeast(row, leastRow);
        return leastRow.at(i);
    }

    public int same(int a, int b) {
        Row one = heapAt(a);
        Row other = heapAt(b);
        if (one == null || other == null) {
            return UNKNOWN;
        }
        return yes(looks.areOne(one, other));
    }

    public int apart(int a, int b) {
        Row one = heapAt(a);
        Row other = heapAt(b);
        if (one == null || other == null) {
            return UNKNOWN;
        }
        return looks.firstUnlikeLook(one, other);
    }

    // ---- layers, orders

    public int layer(int heap, int i) {
        Row row = heapAt(heap);
        if (row == null) {
            return UNKNOWN;
        }
        return i < -1 ? OUTSIDE : looks.layerBits(row, i);
    }

    public int ahead(int heap, int i, int j) {
        Row row = heapAt(heap);
        if (row == null) {
            return UNKNOWN;
        }
        if (!row.hasPlace(i) || !row.hasPlace(j)) {
            return OUTSIDE;
        }
        return yes(looks.mustComeAhead(row, i, j));
    }

    public int begins(int heap, int what) {
        Row row = heapAt(heap);
        if (row == null) {
            return UNKNOWN;
        }
        if (what < 0 || what > 2) {
            return OUTSIDE;
        }
        if (!beginnings.find(row)) {
            return SPENT;
        }
        if (what == 0) {
            return beginnings.found();
        }
        return what == 1 ? beginnings.ways() : beginnings.wide();
    }

    // ---- heaps of heaps

    public int join(int a, int b, int c) {
        Row first = heapAt(a);
        Row second = heapAt(b);
        Row made = heapAt(c);
        if (first == null || second == null || made == null) {
            return UNKNOWN;
        }
        return pairs.makeJoined(first, second, made);
    }

    public int left(int a, int b, int c) {
        Row off = heapAt(a);
        Row from = heapAt(b);
        Row made = heapAt(c);
        if (off == null || from == null || made == null) {
            return UNKNOWN;
        }
        return pairs.makeLeft(off, from, made);
    }

    public int shared(int a, int b, int c) {
        Row first = heapAt(a);
        Row second = heapAt(b);
        Row made = heapAt(c);
        if (first == null || second == null || made == null) {
            return UNKNOWN;
        }
        return pairs.makeShared(first, second, made);
    }

    public int both(int a, int b, int c) {
        Row first = heapAt(a);
        Row second = heapAt(b);
        Row made = heapAt(c);
        if (first == null || second == null || made == null) {
            return UNKNOWN;
        }
        return pairs.makeBoth(first, second, made);
    }

    public int mirror(int heap) {
        Row row = heapAt(heap);
        if (row == null) {
            return UNKNOWN;
        }
        row.turnAbout();
        return row.length();
    }

    public int part(int heap, int i) {
        Row row = heapAt(heap);
        if (row == null) {
            return UNKNOWN;
        }
        return i < -1 ? OUTSIDE : looks.partBits(row, i);
    }

    public int root(int heap) {
        Row row = heapAt(heap);
        if (row == null) {
            return UNKNOWN;
        }
        return looks.greatestRoot(row);
    }

    public int circle(int heap) {
        Row row = heapAt(heap);
        if (row == null) {
            return UNKNOWN;
        }
        if (row.length() > LONGEST_TURNED) {
            return OUTSIDE;
        }
        return circle.find(row) ? circle.found() : SPENT;
    }

    public int turned(int a, int b) {
        Row row = heapAt(a);
        Row sought = heapAt(b);
        if (row == null || sought == null) {
            return UNKNOWN;
        }
        if (row.length() > LONGEST_TURNED) {
            return OUTSIDE;
        }
        return circle.find(row) ? yes(circle.holds(sought)) : SPENT;
    }

    // ---- all heaps

    public int together(int n) {
        return n < 0 || n > MOST_LETTERS ? OUTSIDE : letters.setsTogether(n);
    }

    public int many(int n) {
        return n < 0 || n > LONGEST_COUNTED ? OUTSIDE : order.heapsOfLength(n);
    }

    public int of(int n, int i, int k) {
        if (n < 0 || n > LONGEST_ORDERED || i < 0 || k < 0) {
            return OUTSIDE;
        }
        return order.letterOf(n, i, k);
    }

    public int place(int heap) {
        Row row = heapAt(heap);
        if (row == null) {
            return UNKNOWN;
        }
        if (row.length() > LONGEST_ORDERED) {
            return OUTSIDE;
        }
        looks.makeLeast(row, leastRow);
        return order.placeOfLeast(leastRow);
    }

    // ---- the reader

    public int reader(int n, int takes) {
        if (n < 1 || n > MOST_STATES || takes < 0 || takes >= 1 << n) {
            return OUTSIDE;
        }
        reader.restart(n, takes);
        return 1;
    }

    public int move(int state, int letter, int to) {
        if (!reader.has(state) || !reader.has(to)) {
            return UNKNOWN;
        }
        if (letter < 0 || letter >= MOST_LETTERS) {
            return OUTSIDE;
        }
        int was = reader.next(state, letter);
        reader.setMove(state, letter, to);
        return was;
    }

    public int minds() {
        return reader.firstMinded();
    }

    public int run(int heap, int what) {
        Row row = heapAt(heap);
        if (row == null) {
            return UNKNOWN;
        }
        if (what < 0 || what > 1) {
            return OUTSIDE;
        }
        looks.makeLeast(row, leastRow);
        int state = reader.stateBehind(leastRow);
        return what == 0 ? state : yes(reader.takes(state));
    }

    public int taken(int n) {
        return n < 0 || n > LONGEST_COUNTED ? OUTSIDE : reader.heapsTaken(n);
    }

    public int count(int what) {
        switch (what) {
            case 0:
                return letters.size();
            case 1:
                return letters.freePairs();
            case 2:
                return text.size();
            default:
                Row row = heapAt(what < 0 ? NONE : what - 3);
                return row == null ? OUTSIDE : row.length();
        }
    }

    private static int yes(boolean holds) {
        return holds ? 1 : 0;
    }

    private Row heapAt(int heap) {
        return heap >= 0 && heap < heaps.length ? heaps[heap] : null;
    }

    private void doLine(Line line) {
        if (line == null) {
            return;
        }
        switch (line.kind) {
            case Line.FREE_PAIR:
                letters.setFree(line.first, line.second, true);
                break;
            case Line.BOUND_PAIR:
                letters.setFree(line.first, line.second, false);
                break;
            case Line.LETTERS_ANEW:
                startAnew(line.first);
                break;
            default:
                tellHeap(line);
                break;
        }
    }

    private void startAnew(int size) {
        letters.restart(size);
        for (int i = 0; i < heaps.length; i++) {
            heaps[i].wipe();
        }
    }

    private void tellHeap(Line line) {
        Row row = heapAt(line.first);
        if (row == null) {
            return;
        }
        row.wipe();
        for (int i = line.wordStart; i < line.wordEnd; i++) {
            row.push(text.letterAt(i));
        }
    }

    /** How many letters there are, and which pairs of them are free. */
    private static final class Letters {
        private final int[] freeBits = new int[MOST_LETTERS];
        private int size = LETTERS_AT_FIRST;

        int size() {
            return size;
        }

        void restart(int newSize) {
            size = newSize;
            Arrays.fill(freeBits, 0);
        }

        boolean has(int letter) {
            return letter >= 0 && letter < size;
        }

        /** By bits, the letters that are free with this one. */
        int freeWith(int letter) {
            return letter >= 0 && letter < freeBits.length ? freeBits[letter] : 0;
        }

        /** By bits, the letters that are not free with this one: itself, too. */
        int boundWith(int letter) {
            int all = (1 << size) - 1;
            return letter >= 0 && letter < freeBits.length ? all & ~freeBits[letter] : all;
        }

        int allBits() {
            return (1 << size) - 1;
        }

        boolean areFree(int p, int q) {
            return has(q) && (freeWith(p) >> q & 1) == 1;
        }

        void setFree(int p, int q, boolean are) {
            if (p == q) {
                return;
            }
            setBit(p, q, are);
            setBit(q, p, are);
        }

        private void setBit(int p, int q, boolean are) {
            if (!has(q) || p < 0 || p >= freeBits.length) {
                return;
            }
            freeBits[p] = are ? freeBits[p] | 1 << q : freeBits[p] & ~(1 << q);
        }

        int freePairs() {
            int ends = 0;
            for (int i = 0; i < freeBits.length; i++) {
                ends += Integer.bitCount(freeBits[i]);
            }
            return ends / 2;
        }

        int setsTogether(int n) {
            int sets = 0;
            int all = allBits();
            for (int set = 0; set <= all; set++) {
                if (Integer.bitCount(set) == n && goTogether(set)) {
                    sets++;
                }
            }
            return sets;
        }

        private boolean goTogether(int set) {
            for (int p = 0; p < size; p++) {
                if ((set >> p & 1) == 1 && (set & boundWith(p)) != 1 << p) {
                    return false;
                }
            }
            return true;
        }
    }

    /** A row of letters, 24 at most. */
    private static final class Row {
        private final int[] row = new int[LONGEST_ROW];
        private int length = 0;

        int length() {
            return length;
        }

        boolean hasPlace(int i) {
            return i >= 0 && i < length && i < row.length;
        }

        int at(int i) {
            return i >= 0 && i < length && i < row.length ? row[i] : NONE;
        }

        void wipe() {
            length = 0;
        }

        boolean push(int letter) {
            if (length < 0 || length >= row.length) {
                return false;
            }
            row[length] = letter;
            length++;
            return true;
        }

        boolean append(Row other) {
            int more = other.length;
            if (length + more > row.length) {
                return false;
            }
            for (int i = 0; i < more; i++) {
                push(other.at(i));
            }
            return true;
        }

        void become(Row other) {
            length = 0;
            for (int i = 0; i < other.length && i < other.row.length && i < row.length; i++) {
                row[i] = other.row[i];
                length++;
            }
        }

        void removeAt(int place) {
            if (!hasPlace(place)) {
                return;
            }
            for (int i = place + 1; i < length && i < row.length; i++) {
                row[i - 1] = row[i];
            }
            length--;
        }

        void turnAbout() {
            for (int i = 0; i < length / 2; i++) {
                int j = length - 1 - i;
                if (hasPlace(i) && hasPlace(j)) {
                    int kept = row[i];
                    row[i] = row[j];
                    row[j] = kept;
                }
            }
        }

        int howMany(int letter) {
            int found = 0;
            for (int i = 0; i < length; i++) {
                if (at(i) == letter) {
                    found++;
                }
            }
            return found;
        }

        /** By bits, the letters that stand in it. */
        int bits() {
            int found = 0;
            for (int i = 0; i < length; i++) {
                found |= 1 << at(i);
            }
            return found;
        }
    }

    /** The bytes of the text, and the token at which its reading stands. */
    private static final class Text {
        private final int[] bytes = new int[LONGEST_TEXT];
        private int size = 0;
        private int start = 0;
        private int end = 0;

        int size() {
            return size;
        }

        void wipe() {
            size = 0;
        }

        void push(int b) {
            if (size >= 0 && size < bytes.length) {
                bytes[size] = b;
                size++;
            }
        }

        private int byteAt(int i) {
            return i >= 0 && i < size && i < bytes.length ? bytes[i] : NONE;
        }

        /** The letter that is written there; below 0 or beyond the letters, if none is. */
        int letterAt(int i) {
            return byteAt(i) - 'a';
        }

        private boolean isSmall(int i) {
            return byteAt(i) >= 'a' && byteAt(i) <= 'z';
        }

        private boolean isDigit(int i) {
            return byteAt(i) >= '0' && byteAt(i) <= '9';
        }

        void rewind() {
            start = 0;
            end = 0;
        }

        /** Goes on to the next token; at the end it is one of no bytes. */
        void step() {
            start = end;
            while (start < size && byteAt(start) == ' ') {
                start++;
            }
            end = start;
            if (isSmall(start)) {
                while (end < size && isSmall(end)) {
                    end++;
                }
            } else if (isDigit(start)) {
                while (end < size && isDigit(end)) {
                    end++;
                }
            } else if (start < size) {
                end++;
            }
        }

        int start() {
            return start;
        }

        int end() {
            return end;
        }

        int tokenLength() {
            return end - start;
        }

        boolean isSign(int sign) {
            return tokenLength() == 1 && byteAt(start) == sign;
        }

        boolean isWord(String word) {
            if (tokenLength() != word.length()) {
                return false;
            }
            for (int i = 0; i < word.length(); i++) {
                if (byteAt(start + i) != word.charAt(i)) {
                    return false;
                }
            }
            return true;
        }

        /** The number that the token is; NONE if it is none of one digit. */
        int number() {
            return tokenLength() == 1 && isDigit(start) ? byteAt(start) - '0' : NONE;
        }
    }

    /** One line of the text, as it was read. */
    private static final class Line {
        static final int FREE_PAIR = 0, BOUND_PAIR = 1, LETTERS_ANEW = 2, HEAP_IS = 3;

        int kind = FREE_PAIR;
        int first = 0;
        int second = 0;
        int wordStart = 0;
        int wordEnd = 0;
    }

    /** Reads the text's lines up to their first fault. */
    private static final class Lines {
        private static final int MOST = 16;

        private final Text text;
        private final Line[] lines = new Line[MOST];
        private int size = 0;
        private int known = 0;

        Lines(Text text) {
            this.text = text;
            for (int i = 0; i < lines.length; i++) {
                lines[i] = new Line();
            }
        }

        int size() {
            return size;
        }

        Line at(int i) {
            return i >= 0 && i < lines.length ? lines[i] : null;
        }

        /** The place of the fault, or NONE: then all lines are held. */
        int read(int lettersNow) {
            known = lettersNow;
            size = 0;
            text.rewind();
            for (int i = 0; i < lines.length; i++) {
                if (!readLine(lines[i])) {
                    return text.start();
                }
                size++;
                text.step();
                if (text.tokenLength() == 0) {
                    return NONE;
                }
                if (!text.isSign(';')) {
                    return text.start();
                }
            }
            return text.start();
        }

        /** Whether a line stands here; if not, the text stands at the token that cannot. */
        private boolean readLine(Line line) {
            text.step();
            if (text.isWord("free")) {
                return readPair(line, Line.FREE_PAIR);
            }
            if (text.isWord("bound")) {
                return readPair(line, Line.BOUND_PAIR);
            }
            if (text.isWord("letters")) {
                return readLetters(line);
            }
            return text.isWord("heap") && readHeap(line);
        }

        private boolean readPair(Line line, int kind) {
            text.step();
            if (text.tokenLength() != 2 || !isOfLetters()) {
                return false;
            }
            line.kind = kind;
            line.first = text.letterAt(text.start());
            line.second = text.letterAt(text.start() + 1);
            return line.first != line.second;
        }

        private boolean readLetters(Line line) {
            text.step();
            int number = text.number();
            if (number < 1 || number > MOST_LETTERS) {
                return false;
            }
            line.kind = Line.LETTERS_ANEW;
            line.first = number;
            known = number;
            return true;
        }

        private boolean readHeap(Line line) {
            text.step();
            int heap = text.number();
            if (heap < 0 || heap >= HEAPS) {
                return false;
            }
            line.kind = Line.HEAP_IS;
            line.first = heap;
            text.step();
            if (!text.isWord("is")) {
                return false;
            }
            text.step();
            boolean isEmpty = text.isWord("none");
            line.wordStart = text.start();
            line.wordEnd = isEmpty ? text.start() : text.end();
            return isEmpty || text.tokenLength() >= 1 && text.tokenLength() <= LONGEST_ROW && isOfLetters();
        }

        private boolean isOfLetters() {
            for (int i = text.start(); i < text.end(); i++) {
                int letter = text.letterAt(i);
                if (letter < 0 || letter >= known) {
                    return false;
                }
            }
            return true;
        }
    }

    /** What can be told of one heap by any of its rows, and whether two are one. */
    private static final class Heaps {
        private final Letters letters;
        private final Row rest = new Row();
        private final Row piece = new Row();
        private final Row power = new Row();

        Heaps(Letters letters) {
            this.letters = letters;
        }

        Letters letters() {
            return letters;
        }

        /** Where the letter stands that can come to the front of the row; NONE if it can't. */
        private int frontPlace(Row row, int letter) {
            int bound = letters.boundWith(letter);
            for (int i = 0; i < row.length(); i++) {
                if ((bound >> row.at(i) & 1) == 1) {
                    return row.at(i) == letter ? i : NONE;
                }
            }
            return NONE;
        }

        boolean canTakeOff(Row row, int letter) {
            return frontPlace(row, letter) != NONE;
        }

        boolean takeOff(Row row, int letter) {
            int place = frontPlace(row, letter);
            row.removeAt(place);
            return place != NONE;
        }

        /** The second row, maybe the same one, becomes the least row of the first one's heap. */
        void makeLeast(Row from, Row made) {
            rest.become(from);
            made.wipe();
            for (int i = rest.length(); i > 0; i--) {
                int place = leastFrontPlace(rest);
                made.push(rest.at(place));
                rest.removeAt(place);
            }
        }

        private int leastFrontPlace(Row row) {
            int heldBack = 0;
            int least = 0;
            for (int i = 0; i < row.length(); i++) {
                int letter = row.at(i);
                if ((heldBack >> letter & 1) == 0 && letter < row.at(least)) {
                    least = i;
                }
                heldBack |= letters.boundWith(letter);
            }
            return least;
        }

        boolean areOne(Row a, Row b) {
            return firstUnlikeLook(a, b) == NONE;
        }

        int firstUnlikeLook(Row a, Row b) {
            for (int p = 0; p < letters.size(); p++) {
                for (int q = p; q < letters.size(); q++) {
                    if (!letters.areFree(p, q) && !lookAlike(a, b, 1 << p | 1 << q)) {
                        return 8 * p + q;
                    }
                }
            }
            return NONE;
        }

        private static boolean lookAlike(Row a, Row b, int seen) {
            int j = nextSeen(b, 0, seen);
            for (int i = 0; i < a.length(); i++) {
                if ((seen >> a.at(i) & 1) == 1) {
                    if (a.at(i) != b.at(j)) {
                        return false;
                    }
                    j = nextSeen(b, j + 1, seen);
                }
            }
            return j >= b.length();
        }

        private static int nextSeen(Row row, int from, int seen) {
            for (int i = from; i < row.length(); i++) {
                if ((seen >> row.at(i) & 1) == 1) {
                    return i;
                }
            }
            return row.length();
        }

        /** The i-th layer by bits, or NONE; how many there are, if i is -1. */
        int layerBits(Row row, int i) {
            rest.become(row);
            int layers = 0;
            while (rest.length() > 0 && layers < LONGEST_ROW) {
                int bits = frontBits(rest);
                if (layers == i) {
                    return bits;
                }
                takeOffAll(rest, bits);
                layers++;
            }
            return i == -1 ? layers : NONE;
        }

        private int frontBits(Row row) {
            int bits = 0;
            for (int p = 0; p < letters.size(); p++) {
                if (canTakeOff(row, p)) {
                    bits |= 1 << p;
                }
            }
            return bits;
        }

        private void takeOffAll(Row row, int bits) {
            for (int p = 0; p < letters.size(); p++) {
                if ((bits >> p & 1) == 1) {
                    takeOff(row, p);
                }
            }
        }

        boolean mustComeAhead(Row row, int i, int j) {
            if (i >= j) {
                return false;
            }
            int heldBack = letters.boundWith(row.at(i));
            for (int m = i + 1; m < j; m++) {
                if ((heldBack >> row.at(m) & 1) == 1) {
                    heldBack |= letters.boundWith(row.at(m));
                }
            }
            return (heldBack >> row.at(j) & 1) == 1;
        }

        /** The i-th part by bits, or NONE; how many there are, if i is -1. */
        int partBits(Row row, int i) {
            int present = row.bits();
            int seen = 0;
            int parts = 0;
            for (int p = 0; p < letters.size(); p++) {
                if ((present >> p & 1) == 1 && (seen >> p & 1) == 0) {
                    int bits = hangTogether(p, present);
                    if (parts == i) {
                        return bits;
                    }
                    seen |= bits;
                    parts++;
                }
            }
            return i == -1 ? parts : NONE;
        }

        private int hangTogether(int letter, int present) {
            int bits = 1 << letter;
            // each round that finds anything finds a letter more, so as many rounds as letters do
            for (int round = 0; round < letters.size(); round++) {
                for (int q = 0; q < letters.size(); q++) {
                    if ((present >> q & 1) == 1 && (letters.boundWith(q) & bits) != 0) {
                        bits |= 1 << q;
                    }
                }
            }
            return bits;
        }

        int greatestRoot(Row row) {
            for (int n = row.length(); n > 0; n--) {
                if (isPower(row, n)) {
                    return n;
                }
            }
            return 0;
        }

        /** If it is n times a heap, this has the first n-th of each letter's places, so no other need be tried. */
        private boolean isPower(Row row, int n) {
            if (n < 1) {
                return false;
            }
            piece.wipe();
            for (int p = 0; p < letters.size(); p++) {
                if (row.howMany(p) % n != 0) {
                    return false;
                }
            }
            for (int i = 0; i < row.length(); i++) {
                int letter = row.at(i);
                if (piece.howMany(letter) < row.howMany(letter) / n) {
                    piece.push(letter);
                }
            }
            power.wipe();
            for (int i = 0; i < n; i++) {
                power.append(piece);
            }
            return firstUnlikeLook(row, power) == NONE;
        }
    }

    /** Heaps that are made of two others; each is told by its least row. */
    private static final class Pairs {
        private final Heaps heaps;
        private final Row common = new Row();
        private final Row ofFirst = new Row();
        private final Row ofSecond = new Row();

        Pairs(Heaps heaps) {
            this.heaps = heaps;
        }

        int makeJoined(Row first, Row second, Row made) {
            common.become(first);
            return common.append(second) ? makeHeap(common, made) : FULL;
        }

        int makeLeft(Row off, Row from, Row made) {
            ofSecond.become(from);
            for (int i = 0; i < off.length(); i++) {
                if (!heaps.takeOff(ofSecond, off.at(i))) {
                    return NOT;
                }
            }
            return makeHeap(ofSecond, made);
        }

        int makeShared(Row first, Row second, Row made) {
            splitCommon(first, second);
            return makeHeap(common, made);
        }

        int makeBoth(Row first, Row second, Row made) {
            splitCommon(first, second);
            if (!isAllFree(ofFirst, ofSecond)) {
                return NOT;
            }
            return common.append(ofFirst) && common.append(ofSecond) ? makeHeap(common, made) : FULL;
        }

        private int makeHeap(Row row, Row made) {
            heaps.makeLeast(row, made);
            return made.length();
        }

        /** Whichever letter both begin with, what they share begins with it, too: so any is taken. */
        private void splitCommon(Row first, Row second) {
            common.wipe();
            ofFirst.become(first);
            ofSecond.become(second);
            for (int i = 0; i < LONGEST_ROW; i++) {
                int letter = commonFront();
                if (letter == NONE) {
                    return;
                }
                heaps.takeOff(ofFirst, letter);
                heaps.takeOff(ofSecond, letter);
                common.push(letter);
            }
        }

        private int commonFront() {
            for (int p = 0; p < heaps.letters().size(); p++) {
                if (heaps.canTakeOff(ofFirst, p) && heaps.canTakeOff(ofSecond, p)) {
                    return p;
                }
            }
            return NONE;
        }

        /** What two leave of their shared one goes on to a heap of both just if it never stands in the way. */
        private boolean isAllFree(Row a, Row b) {
            int others = b.bits();
            for (int i = 0; i < a.length(); i++) {
                if ((heaps.letters().boundWith(a.at(i)) & others) != 0) {
                    return false;
                }
            }
            return true;
        }
    }

    /** The beginnings of a heap, each at the number that its counts of the letters make. */
    private static final class Beginnings {
        // 24 letters of 6 kinds have no more rows of counts than 5 to the 6th: far from SPENT
        private static final int MOST = 15625;

        private final Letters letters;
        private final byte[] reached = new byte[MOST];
        private final int[] waysTo = new int[MOST];
        private final int[] most = new int[MOST_LETTERS];
        private final int[] stride = new int[MOST_LETTERS];
        private final int[] counts = new int[MOST_LETTERS];
        private final int[][] needs = new int[MOST_LETTERS * LONGEST_ROW][MOST_LETTERS];
        private int size = 0;
        private int found = 0;
        private int wide = 0;

        Beginnings(Letters letters) {
            this.letters = letters;
        }

        int found() {
            return found;
        }

        int ways() {
            return size >= 1 && size <= waysTo.length ? waysTo[size - 1] : 0;
        }

        int wide() {
            return wide;
        }

        /** Whether there was room for the beginnings of this heap. */
        boolean find(Row row) {
            found = 0;
            wide = 0;
            measure(row);
            if (size > MOST) {
                return false;
            }
            noteNeeds(row);
            startAtNone();
            for (int at = 0; at < size && at < reached.length; at++) {
                if (reached[at] == 1) {
                    found++;
                    wide = Math.max(wide, goOnFrom(at));
                }
                stepCounts();
            }
            return true;
        }

        private void startAtNone() {
            Arrays.fill(counts, 0);
            for (int at = 0; at < size && at < reached.length && at < waysTo.length; at++) {
                reached[at] = 0;
                waysTo[at] = 0;
            }
            reach(0, 1);
        }

        private void measure(Row row) {
            size = 1;
            for (int p = 0; p < most.length && p < stride.length; p++) {
                most[p] = row.howMany(p);
                stride[p] = size;
                size *= most[p] + 1;
            }
        }

        /** For each letter's i-th place: how many of each letter not free with it must have gone ahead. */
        private void noteNeeds(Row row) {
            Arrays.fill(counts, 0);
            for (int i = 0; i < row.length(); i++) {
                int letter = row.at(i);
                if (letter < 0 || letter >= counts.length) {
                    return;
                }
                noteNeed(letter * LONGEST_ROW + counts[letter], letters.boundWith(letter));
                counts[letter]++;
            }
        }

        private void noteNeed(int at, int bound) {
            if (at < 0 || at >= needs.length) {
                return;
            }
            int[] need = needs[at];
            for (int q = 0; q < need.length && q < counts.length; q++) {
                need[q] = (bound >> q & 1) == 1 ? counts[q] : 0;
            }
        }

        /** Reaches what is one letter longer: with how many letters one can go on. */
        private int goOnFrom(int at) {
            int open = 0;
            int waysHere = at >= 0 && at < waysTo.length ? waysTo[at] : 0;
            for (int p = 0; p < counts.length && p < most.length && p < stride.length; p++) {
                if (counts[p] < most[p] && isOpen(p * LONGEST_ROW + counts[p])) {
                    open++;
                    reach(at + stride[p], waysHere);
                }
            }
            return open;
        }

        private boolean isOpen(int at) {
            if (at < 0 || at >= needs.length) {
                return false;
            }
            int[] need = needs[at];
            for (int q = 0; q < need.length && q < counts.length; q++) {
                if (need[q] > counts[q]) {
                    return false;
                }
            }
            return true;
        }

        private void reach(int at, int moreWays) {
            if (at >= 0 && at < reached.length && at < waysTo.length) {
                reached[at] = 1;
                waysTo[at] = (waysTo[at] + moreWays) % MODULUS;
            }
        }

        private void stepCounts() {
            for (int p = 0; p < counts.length && p < most.length; p++) {
                if (counts[p] < most[p]) {
                    counts[p]++;
                    return;
                }
                counts[p] = 0;
            }
        }
    }

    /** All heaps to which one comes by turning, each held as its least row's number. */
    private static final class Circle {
        private static final int MOST = 2000;
        private static final int SLOTS = 4096;

        private final Letters letters;
        private final Heaps heaps;
        private final long[] numbers = new long[MOST];
        private final long[] slots = new long[SLOTS];
        private final Row start = new Row();
        private final Row next = new Row();
        private int found = 0;

        Circle(Letters letters, Heaps heaps) {
            this.letters = letters;
            this.heaps = heaps;
        }

        int found() {
            return found;
        }

        /** Whether there was room for all; the row has 12 letters at most. */
        boolean find(Row row) {
            found = 0;
            Arrays.fill(slots, 0);
            if (!keep(leastNumber(row))) {
                return false;
            }
            for (int i = 0; i < found && i < numbers.length; i++) {
                if (!keepTurned(numbers[i])) {
                    return false;
                }
            }
            return true;
        }

        boolean holds(Row row) {
            if (row.length() > LONGEST_TURNED) {
                return false;
            }
            long number = leastNumber(row);
            int slot = slotOf(number);
            return slot >= 0 && slot < slots.length && slots[slot] == number;
        }

        private boolean keepTurned(long number) {
            for (int p = 0; p < letters.size(); p++) {
                setRow(start, number);
                if (heaps.takeOff(start, p)) {
                    start.push(p);
                    if (!keep(leastNumber(start))) {
                        return false;
                    }
                }
            }
            return true;
        }

        private boolean keep(long number) {
            int slot = slotOf(number);
            if (slot < 0 || slot >= slots.length) {
                return false;
            }
            if (slots[slot] == number) {
                return true;
            }
            if (found < 0 || found >= numbers.length) {
                return false;
            }
            slots[slot] = number;
            numbers[found] = number;
            found++;
            return true;
        }

        /** The slot that holds the number or may take it. */
        private int slotOf(long number) {
            int slot = (int) (number * 0x9E3779B97F4A7C15L >>> 52);
            for (int i = 0; i < slots.length; i++) {
                int at = slot + i & SLOTS - 1;
                if (at >= 0 && at < slots.length && (slots[at] == 0 || slots[at] == number)) {
                    return at;
                }
            }
            return NONE;
        }

        /** Three bits a letter behind a first 1, so that rows of unlike lengths have unlike numbers. */
        private long leastNumber(Row row) {
            heaps.makeLeast(row, next);
            long number = 1;
            for (int i = 0; i < next.length(); i++) {
                number = number << 3 | next.at(i);
            }
            return number;
        }

        private static void setRow(Row row, long number) {
            row.wipe();
            for (int shift = 3 * (LONGEST_TURNED - 1); shift >= 0; shift -= 3) {
                if (number >> shift + 3 != 0) {
                    row.push((int) (number >> shift & 7));
                }
            }
        }
    }

    /**
     * All heaps of a length in the order of their least rows. A letter is barred behind a least row, if it could
     * go ahead of a greater one: then the row with it would be no least row.
     */
    private static final class Order {
        private final Letters letters;
        private final long[][] following = new long[LONGEST_ORDERED + 1][SETS_OF_LETTERS];
        private final long[] many = new long[LONGEST_COUNTED + 1];
        private final int[] sets = new int[MOST_LETTERS + 1];
        private int barred = 0;
        private long ahead = 0;

        Order(Letters letters) {
            this.letters = letters;
        }

        /** By bits, the letters that are barred when this one comes behind a row that bars those. */
        int barredBehind(int bars, int letter) {
            return letters.freeWith(letter) & (bars | (1 << letter) - 1);
        }

        /** By the sum over all sets that go together, of odd ones with plus, of even ones with minus. */
        int heapsOfLength(int n) {
            for (int taken = 0; taken < sets.length; taken++) {
                sets[taken] = letters.setsTogether(taken);
            }
            many[0] = 1;
            for (int length = 1; length <= n && length < many.length; length++) {
                many[length] = sumOverSets(length);
            }
            return n >= 0 && n < many.length ? (int) many[n] : 0;
        }

        private long sumOverSets(int length) {
            long sum = 0;
            for (int taken = 1; taken <= length && taken < sets.length; taken++) {
                int rest = length - taken;
                long those = rest < many.length ? sets[taken] * many[rest] % MODULUS : 0;
                sum += taken % 2 == 1 ? those : -those;
            }
            return Math.floorMod(sum, (long) MODULUS);
        }

        int letterOf(int n, int i, int k) {
            countFollowing(n);
            if (k >= n || i >= howManyFollow(n, 0)) {
                return NONE;
            }
            barred = 0;
            ahead = i;
            int letter = NONE;
            for (int at = 0; at <= k; at++) {
                letter = pickLetter(n - at - 1);
                barred = barredBehind(barred, letter);
            }
            return letter;
        }

        /** The letter at which those that are still ahead end, when so many places follow. */
        private int pickLetter(int follow) {
            for (int p = 0; p < letters.size(); p++) {
                long those = howManyFollowLetter(follow, p);
                if (ahead < those) {
                    return p;
                }
                ahead -= those;
            }
            return NONE;
        }

        int placeOfLeast(Row least) {
            countFollowing(least.length());
            barred = 0;
            long place = 0;
            for (int at = 0; at < least.length(); at++) {
                for (int p = 0; p < least.at(at); p++) {
                    place += howManyFollowLetter(least.length() - at - 1, p);
                }
                barred = barredBehind(barred, least.at(at));
            }
            return (int) (place % MODULUS);
        }

        private long howManyFollowLetter(int follow, int letter) {
            return (barred >> letter & 1) == 1 ? 0 : howManyFollow(follow, barredBehind(barred, letter));
        }

        private long howManyFollow(int n, int bars) {
            if (n < 0 || n >= following.length) {
                return 0;
            }
            long[] row = following[n];
            return bars >= 0 && bars < row.length ? row[bars] : 0;
        }

        private void countFollowing(int n) {
            int all = letters.allBits();
            Arrays.fill(following[0], 1);
            for (int length = 1; length <= n && length < following.length; length++) {
                long[] row = following[length];
                for (int bars = 0; bars <= all && bars < row.length; bars++) {
                    barred = bars;
                    row[bars] = sumFollowing(length - 1);
                }
            }
        }

        private long sumFollowing(int follow) {
            long sum = 0;
            for (int p = 0; p < letters.size(); p++) {
                sum += howManyFollowLetter(follow, p);
            }
            return sum;
        }
    }

    /** The reader: its states, those that take, its moves. */
    private static final class Reader {
        private final Letters letters;
        private final Order order;
        private final int[][] moves = new int[MOST_STATES][MOST_LETTERS];
        private int[] now = new int[SETS_OF_LETTERS * MOST_STATES];
        private int[] then = new int[SETS_OF_LETTERS * MOST_STATES];
        private int states = 1;
        private int takeBits = 0;

        Reader(Letters letters, Order order) {
            this.letters = letters;
            this.order = order;
        }

        void restart(int n, int takes) {
            states = n;
            takeBits = takes;
            for (int state = 0; state < moves.length; state++) {
                Arrays.fill(moves[state], state);
            }
        }

        boolean has(int state) {
            return state >= 0 && state < states;
        }

        boolean takes(int state) {
            return has(state) && (takeBits >> state & 1) == 1;
        }

        int next(int state, int letter) {
            if (state < 0 || state >= moves.length) {
                return 0;
            }
            int[] row = moves[state];
            return letter >= 0 && letter < row.length ? row[letter] : 0;
        }

        void setMove(int state, int letter, int to) {
            if (state < 0 || state >= moves.length) {
                return;
            }
            int[] row = moves[state];
            if (letter >= 0 && letter < row.length) {
                row[letter] = to;
            }
        }

        int firstMinded() {
            for (int state = 0; state < states; state++) {
                for (int p = 0; p < letters.size(); p++) {
                    for (int q = p + 1; q < letters.size(); q++) {
                        if (letters.areFree(p, q) && mindsPair(state, p, q)) {
                            return 64 * state + 8 * p + q;
                        }
                    }
                }
            }
            return NONE;
        }

        private boolean mindsPair(int state, int p, int q) {
            return next(next(state, p), q) != next(next(state, q), p);
        }

        int stateBehind(Row row) {
            int state = 0;
            for (int i = 0; i < row.length(); i++) {
                state = next(state, row.at(i));
            }
            return state;
        }

        /** Walks all least rows at once, by what they bar and the state behind them. */
        int heapsTaken(int n) {
            int all = letters.allBits();
            Arrays.fill(now, 0);
            now[0] = 1;
            for (int length = 0; length < n; length++) {
                Arrays.fill(then, 0);
                for (int bars = 0; bars <= all; bars++) {
                    for (int state = 0; state < states; state++) {
                        goOnFrom(bars, state);
                    }
                }
                int[] kept = now;
                now = then;
                then = kept;
            }
            return sumTaken();
        }

        private void goOnFrom(int bars, int state) {
            int at = bars * MOST_STATES + state;
            if (at < 0 || at >= now.length || now[at] == 0) {
                return;
            }
            for (int p = 0; p < letters.size(); p++) {
                if ((bars >> p & 1) == 0) {
                    int to = order.barredBehind(bars, p) * MOST_STATES + next(state, p);
                    if (to >= 0 && to < then.length) {
                        then[to] = (then[to] + now[at]) % MODULUS;
                    }
                }
            }
        }

        private int sumTaken() {
            long sum = 0;
            for (int at = 0; at < now.length; at++) {
                if (takes(at % MOST_STATES)) {
                    sum += now[at];
                }
            }
            return (int) (sum % MODULUS);
        }
    }
}
