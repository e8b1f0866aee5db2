import java.util.List;
import java.util.Random;

/** Random short heaps, readers and texts, compared with the model. */
public final class ModelTest {
    private static final Checks checks = new Checks();
    private static final Random random = new Random(20261118);

    private static Model model;
    private static SwapSteps x;

    public static void main(String[] args) {
        for (int i = 0; i < 300; i++) {
            start(1 + random.nextInt(6));
            oneHeap(word(7));
            twoHeaps(word(5), random.nextInt(3) == 0 ? word(5) : null);
        }
        for (int i = 0; i < 200; i++) {
            start(1 + random.nextInt(6));
            allHeaps(random.nextInt(model.k > 4 ? 5 : 6));
        }
        for (int i = 0; i < 20000; i++) {
            text(i);
        }
        checks.finish();
    }

    /** Another object, with so many letters and some of their pairs free. */
    private static void start(int k) {
        model = new Model(k);
        x = new SwapSteps();
        Checks.tell(x, "letters " + k);
        int share = random.nextInt(5);
        for (int p = 0; p < k; p++) {
            for (int q = p + 1; q < k; q++) {
                boolean are = random.nextInt(4) < share;
                model.free[p][q] = are;
                model.free[q][p] = are;
                x.free(p, q, are);
            }
        }
    }

    private static String word(int most) {
        StringBuilder word = new StringBuilder();
        for (int n = random.nextInt(most + 1); n > 0; n--) {
            word.append((char) ('a' + random.nextInt(model.k)));
        }
        if (random.nextInt(4) == 0) {
            return word.substring(word.length() / 2).repeat(2);
        }
        return word.toString();
    }

    private static void oneHeap(String w) {
        Checks.setHeap(x, 0, w);
        Checks.setHeap(x, 1, model.least(w));
        checks.dueRow("least row of " + w, x, 1, Checks.row(x, 0, 1));
        List<Integer> layers = model.layers(w);
        checks.due("layers of " + w, x.layer(0, -1), layers.size());
        for (int i = 0; i < layers.size(); i++) {
            checks.due("layer of " + w, x.layer(0, i), layers.get(i));
        }
        for (int i = 0; i < w.length(); i++) {
            for (int j = 0; j < w.length(); j++) {
                checks.due("ahead in " + w, x.ahead(0, i, j), model.ahead(w, i, j) ? 1 : 0);
            }
        }
        checks.due("beginnings of " + w, x.begins(0, 0), model.beginnings(w).size());
        checks.due("ways of " + w, x.begins(0, 1), model.rows(w).size());
        checks.due("wide of " + w, x.begins(0, 2), model.wide(w));
        List<Integer> parts = model.parts(w);
        checks.due("parts of " + w, x.part(0, -1), parts.size());
        for (int i = 0; i < parts.size(); i++) {
            checks.due("part of " + w, x.part(0, i), parts.get(i));
        }
        checks.due("root of " + w, x.root(0), model.root(w));
        checks.due("circle of " + w, x.circle(0), model.circle(w).size());
    }

    /** If no other word is told, one that has much to do with the first. */
    private static void twoHeaps(String a, String told) {
        String b = told;
        if (b == null) {
            StringBuilder changed = new StringBuilder(a);
            for (int n = random.nextInt(3); n > 0 && changed.length() > 1; n--) {
                int i = random.nextInt(changed.length());
                char moved = changed.charAt(i);
                changed.deleteCharAt(i).insert(random.nextInt(changed.length() + 1), moved);
            }
            b = changed.substring(random.nextInt(Math.min(2, changed.length()) + 1)) + word(2);
            b = b.substring(0, Math.min(5, b.length()));
        }
        String names = " of " + a + " and " + b;
        Checks.setHeap(x, 0, a);
        Checks.setHeap(x, 1, b);
        checks.due("same" + names, x.same(0, 1), model.same(a, b) ? 1 : 0);
        checks.due("apart" + names, x.apart(0, 1), model.apart(a, b));
        checks.due("apart tells the same" + names, model.apart(a, b) == SwapSteps.NONE ? 1 : 0, x.same(0, 1));
        checks.due("turned" + names, x.turned(0, 1), model.circle(a).contains(model.least(b)) ? 1 : 0);
        dueMade("join" + names, x.join(0, 1, 2), model.least(a + b), SwapSteps.FULL);
        dueMade("left" + names, x.left(0, 1, 2), model.left(a, b), SwapSteps.NOT);
        dueMade("shared" + names, x.shared(0, 1, 2), model.shared(a, b), SwapSteps.NOT);
        dueMade("both" + names, x.both(0, 1, 2), model.both(a, b), SwapSteps.NOT);
        checks.due("mirror of " + a, x.mirror(0), a.length());
        checks.dueRow("mirror of " + a, x, 0, new StringBuilder(a).reverse().toString());
    }

    private static void dueMade(String call, int got, String made, int refused) {
        checks.due(call, got, made == null ? refused : made.length());
        if (made != null) {
            checks.dueRow(call, x, 2, made);
        }
    }

    private static void allHeaps(int n) {
        List<String> all = model.all(n);
        for (int size = 0; size <= 6; size++) {
            checks.due("together " + size, x.together(size), model.together(size));
        }
        checks.due("many " + n, x.many(n), all.size());
        int states = 1 + random.nextInt(5);
        int takes = random.nextInt(1 << states);
        int[][] moves = setReader(states, takes);
        int taken = 0;
        for (String w : all) {
            taken += takes >> stateBehind(moves, w) & 1;
        }
        checks.due("taken " + n, x.taken(n), taken);
        checks.due("minds", x.minds(), minded(moves));
        checks.due("none behind the last", x.of(n, all.size(), 0), SwapSteps.NONE);
        for (int tries = 0; tries < 20; tries++) {
            int i = random.nextInt(all.size());
            String w = all.get(i);
            for (int at = 0; at < n; at++) {
                checks.due("heap " + i + " of " + n, x.of(n, i, at), w.charAt(at) - 'a');
            }
            Checks.setHeap(x, 0, model.rows(w).last());
            checks.due("place of " + w, x.place(0), i);
            checks.due("run of " + w, x.run(0, 0), stateBehind(moves, w));
            checks.due("take of " + w, x.run(0, 1), takes >> stateBehind(moves, w) & 1);
        }
    }

    private static int[][] setReader(int states, int takes) {
        int[][] moves = new int[states][6];
        x.reader(states, takes);
        for (int state = 0; state < states; state++) {
            for (int letter = 0; letter < 6; letter++) {
                moves[state][letter] = random.nextInt(3) == 0 ? random.nextInt(states) : state;
                x.move(state, letter, moves[state][letter]);
            }
        }
        return moves;
    }

    private static int stateBehind(int[][] moves, String w) {
        int state = 0;
        for (char c : w.toCharArray()) {
            state = moves[state][c - 'a'];
        }
        return state;
    }

    private static int minded(int[][] moves) {
        for (int state = 0; state < moves.length; state++) {
            for (int p = 0; p < model.k; p++) {
                for (int q = p + 1; q < model.k; q++) {
                    if (model.free[p][q] && moves[moves[state][p]][q] != moves[moves[state][q]][p]) {
                        return 64 * state + 8 * p + q;
                    }
                }
            }
        }
        return SwapSteps.NONE;
    }

    private static final String[] PIECES = {"free ", "bound ", "letters ", "heap ", " is ", "none", ";", ";", " ", "ab",
        "ca", "dd", "ef", "abcabc", "0", "1", "3", "6", "9", "12", "x", "A", "\u00e4", "\n", "", "a", "is"};
    private static final String[] LINES = {"free ab", "bound ca", "letters 4", "letters 2", "letters 6", "heap 0 is ab",
        "heap 3 is none", "free  de ", " heap 1 is abcdef", "heap2is ccc", "letters1"};

    private static void text(int i) {
        if (i % 10 == 0) {
            x = new SwapSteps();
        }
        StringBuilder text = new StringBuilder();
        for (int n = random.nextInt(20); n > 0; n--) {
            text.append(text.length() == 0 ? "" : ";").append(LINES[random.nextInt(LINES.length)]);
        }
        for (int n = random.nextInt(3); n > 0; n--) {
            int at = random.nextInt(text.length() + 1);
            int end = Math.min(text.length(), at + random.nextInt(4));
            text.replace(at, end, PIECES[random.nextInt(PIECES.length)]);
        }
        String cut = text.substring(0, Math.min(160, text.length()));
        int k = 1 + random.nextInt(6);
        Checks.tell(x, "letters " + k);
        int due = Model.fault(cut, k);
        checks.due("fault of '" + cut + "'", Checks.fault(x, cut), due);
        checks.due("lines of '" + cut + "'", x.told(), due == SwapSteps.NONE ? cut.split(";", -1).length : SwapSteps.NOT);
    }
}
