import java.util.Random;

/** Calls with any arguments: none may throw, and what is refused changes nothing. */
public final class AnyArgumentsTest {
    private static final Checks checks = new Checks();
    private static final Random random = new Random(4711);
    private static final int[] EDGES = {Integer.MIN_VALUE, -9, -2, -1, 0, 1, 2, 3, 4, 5, 6, 7, 8, 9, 12, 13, 19, 20, 21,
        23, 24, 25, 31, 32, 59, 60, 61, 63, 64, 100, 160, Integer.MAX_VALUE - 1, Integer.MAX_VALUE};
    private static final int CALLS = 32;

    public static void main(String[] args) {
        for (int run = 0; run < 400; run++) {
            SwapSteps x = new SwapSteps();
            for (int i = 0; i < 120; i++) {
                if (i % 20 == 0) {
                    Checks.tell(x, "letters " + (1 + random.nextInt(6)) + ";heap 0 is " + "a".repeat(1 + random.nextInt(24)));
                }
                String before = state(x);
                int call = random.nextInt(CALLS);
                int answer = answer(x, call, any(), any(), any());
                if (answer < SwapSteps.NONE) {
                    checks.due("call " + call + " was refused: changed", before.equals(state(x)) ? 0 : 1, 0);
                }
                checks.due("call " + call + " answers as told", answer >= SwapSteps.SPENT ? 1 : 0, 1);
            }
        }
        checks.finish();
    }

    private static int any() {
        switch (random.nextInt(5)) {
            case 0:
                return EDGES[random.nextInt(EDGES.length)];
            case 1:
                return random.nextInt();
            default:
                return random.nextInt(7) - 1;
        }
    }

    private static String state(SwapSteps x) {
        StringBuilder state = new StringBuilder();
        for (int what = 0; what < 7; what++) {
            state.append(x.count(what)).append(' ');
        }
        for (int heap = 0; heap < 4; heap++) {
            state.append(Checks.row(x, heap, 0)).append(' ').append(Checks.row(x, heap, 1)).append(' ');
        }
        return state.append(x.taken(3)).append(' ').append(x.minds()).append(' ').append(x.fault()).toString();
    }

    private static int answer(SwapSteps x, int call, int a, int b, int c) {
        switch (call) {
            case 0: return x.write(random.nextLong(), a);
            case 1: return x.erase();
            case 2: return x.fault();
            case 3: return x.told();
            case 4: return x.free(a, b, c > 2);
            case 5: return x.add(a, b);
            case 6: return x.clear(a);
            case 7: return x.letter(a, b, c);
            case 8: return x.same(a, b);
            case 9: return x.apart(a, b);
            case 10: return x.layer(a, b);
            case 11: return x.ahead(a, b, c);
            case 12: return x.begins(a, b);
            case 13: return x.join(a, b, c);
            case 14: return x.left(a, b, c);
            case 15: return x.shared(a, b, c);
            case 16: return x.both(a, b, c);
            case 17: return x.mirror(a);
            case 18: return x.part(a, b);
            case 19: return x.root(a);
            case 20: return x.circle(a);
            case 21: return x.turned(a, b);
            case 22: return x.together(a);
            case 23: return x.many(a);
            case 24: return x.of(a, b, c);
            case 25: return x.place(a);
            case 26: return x.reader(a, b);
            case 27: return x.move(a, b, c);
            case 28: return x.minds();
            case 29: return x.run(a, b);
            case 30: return x.taken(a);
            default: return x.count(a);
        }
    }
}
