import java.util.ArrayDeque;
import java.util.HashMap;
import java.util.HashSet;
import java.util.Map;
import java.util.Random;
import java.util.Set;

/** Long heaps: their beginnings and circles found by other ways, and laws that the calls keep among them. */
public final class LongTest {
    private static final Checks checks = new Checks();
    private static final Random random = new Random(811202);
    private static final int MODULUS = 1000000007;

    private static final boolean[][] free = new boolean[6][6];
    private static int k;
    private static SwapSteps x;

    public static void main(String[] args) {
        for (int i = 0; i < 300; i++) {
            start();
            beginnings(word(24));
            start();
            circles(word(12));
            start();
            roots();
            start();
            pairs();
            start();
            places();
        }
        checks.finish();
    }

    private static void start() {
        k = 1 + random.nextInt(6);
        x = new SwapSteps();
        Checks.tell(x, "letters " + k);
        int share = random.nextInt(5);
        for (int p = 0; p < k; p++) {
            for (int q = p + 1; q < k; q++) {
                free[p][q] = free[q][p] = random.nextInt(4) < share;
                x.free(p, q, free[p][q]);
            }
        }
    }

    private static boolean areFree(char p, char q) {
        return p != q && free[p - 'a'][q - 'a'];
    }

    private static String word(int most) {
        StringBuilder word = new StringBuilder();
        for (int n = most - random.nextInt(4); n > 0; n--) {
            word.append((char) ('a' + random.nextInt(k)));
        }
        return word.toString();
    }

    private static String shuffled(String word) {
        char[] row = word.toCharArray();
        for (int n = 0; n < 200 && row.length > 1; n++) {
            int i = random.nextInt(row.length - 1);
            if (areFree(row[i], row[i + 1])) {
                char kept = row[i];
                row[i] = row[i + 1];
                row[i + 1] = kept;
            }
        }
        return new String(row);
    }

    /** Sets of places instead of counts of letters. */
    private static void beginnings(String w) {
        Map<Integer, Long> now = new HashMap<>();
        now.put(0, 1L);
        int found = 0;
        int wide = 0;
        long ways = 0;
        for (int n = 0; n <= w.length(); n++) {
            Map<Integer, Long> then = new HashMap<>();
            for (Map.Entry<Integer, Long> set : now.entrySet()) {
                int open = 0;
                for (int i = 0; i < w.length(); i++) {
                    if (canComeNext(w, set.getKey(), i)) {
                        open++;
                        then.merge(set.getKey() | 1 << i, set.getValue(), (a, b) -> (a + b) % MODULUS);
                    }
                }
                wide = Math.max(wide, open);
                found++;
                ways = set.getValue();
            }
            now = then;
        }
        Checks.setHeap(x, 0, shuffled(w));
        checks.due("beginnings of " + w, x.begins(0, 0), found);
        checks.due("ways of " + w, x.begins(0, 1), ways);
        checks.due("wide of " + w, x.begins(0, 2), wide);
    }

    private static boolean canComeNext(String w, int gone, int i) {
        if ((gone >> i & 1) == 1) {
            return false;
        }
        for (int j = 0; j < i; j++) {
            if ((gone >> j & 1) == 0 && !areFree(w.charAt(j), w.charAt(i))) {
                return false;
            }
        }
        return true;
    }

    private static String looks(String w) {
        StringBuilder looks = new StringBuilder();
        for (char p = 'a'; p < 'a' + k; p++) {
            for (char q = p; q < 'a' + k; q++) {
                if (!areFree(p, q)) {
                    for (char c : w.toCharArray()) {
                        looks.append(c == p || c == q ? "" + c : "");
                    }
                    looks.append('/');
                }
            }
        }
        return looks.toString();
    }

    private static void circles(String w) {
        Set<String> found = new HashSet<>();
        ArrayDeque<String> open = new ArrayDeque<>();
        String last = w;
        found.add(looks(w));
        open.add(w);
        while (!open.isEmpty()) {
            last = open.remove();
            for (int i = 0; i < last.length(); i++) {
                if (canComeNext(last, 0, i)) {
                    String turned = last.substring(0, i) + last.substring(i + 1) + last.charAt(i);
                    if (found.add(looks(turned))) {
                        open.add(turned);
                    }
                }
            }
        }
        Checks.setHeap(x, 0, shuffled(w));
        Checks.setHeap(x, 1, shuffled(last));
        String other = shuffled(new StringBuilder(w).reverse().toString());
        Checks.setHeap(x, 2, other);
        checks.due("circle of " + w, x.circle(0), found.size());
        checks.due("turned " + w, x.turned(0, 1), 1);
        checks.due("turned " + w + " to " + other, x.turned(0, 2), found.contains(looks(other)) ? 1 : 0);
    }

    private static void roots() {
        int n = 1 + random.nextInt(8);
        String piece = word(24 / n);
        if (piece.isEmpty()) {
            return;
        }
        Checks.setHeap(x, 0, piece);
        Checks.setHeap(x, 1, shuffled(piece.repeat(n)));
        checks.due("root of " + n + " times " + piece, x.root(1), n * x.root(0));
    }

    private static void pairs() {
        String front = word(8);
        String a = shuffled(front + word(8));
        String b = shuffled(front + word(8));
        Checks.setHeap(x, 0, a);
        Checks.setHeap(x, 1, b);
        String names = " of " + a + " and " + b;
        int both = x.both(0, 1, 2);
        int shared = x.shared(0, 1, 3);
        checks.due("shared is long" + names, shared >= front.length() ? 1 : 0, 1);
        if (both >= 0) {
            checks.due("both and shared" + names, both + shared, a.length() + b.length());
            checks.due("a begins both" + names, x.left(0, 2, 2), both - a.length());
            x.left(3, 1, 3);
            checks.due("what is left" + names, x.same(2, 3), 1);
        }
        Checks.setHeap(x, 1, front);
        x.join(1, 0, 2);
        checks.due("left of joined" + names, x.left(1, 2, 2), a.length());
        checks.due("left of joined" + names, x.same(0, 2), 1);
    }

    private static void places() {
        int n = random.nextInt(21);
        int i = random.nextInt(3) == 0 ? random.nextInt(100) : random.nextInt(MODULUS);
        StringBuilder row = new StringBuilder();
        for (int at = 0; at < n && x.of(n, i, at) >= 0; at++) {
            row.append((char) ('a' + x.of(n, i, at)));
        }
        if (row.length() == n && n > 0) {
            Checks.setHeap(x, 0, shuffled(row.toString()));
            Checks.setHeap(x, 1, Checks.row(x, 0, 1));
            checks.dueRow("least row of heap " + i, x, 1, row.toString());
            checks.due("place of " + row, x.place(0), i);
        } else if (n > 0 && n < 9) {
            checks.due("there are no more", i >= x.many(n) ? 1 : 0, 1);
        }
    }
}
