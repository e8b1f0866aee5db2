import java.util.Random;

/** Calls with any arguments: none may throw, and what is refused changes nothing. */
public final class AnyArgumentsTest {
    private static final Checks checks = new Checks();
    private static final Random random = new Random(4711);
    private static final int[] EDGES = {Integer.MIN_VALUE, -9, -2, -1, 0, 1, 2, 3, 4, 5, 6, 7, 8, 9, 12, 13, 19, 20, 21,
        23, 24, 25, 31, 32, 59, 60, 61, 63, 64, 100, 160, Integer.MAX_VALUE - 1, Integer.MAX_VALUE};
    private static final int CALLS = 32;

    /** A call that can be made again on a twin. */
    private record Made(int call, int a, int b, int c, long bytes) {
    }

    public static void main(String[] args) {
        for (int run = 0; run < 2000; run++) {
            String start = "letters " + (1 + random.nextInt(6)) + ";heap 0 is " + "a".repeat(1 + random.nextInt(24));
            SwapSteps x = Checks.made(start);
            SwapSteps twin = Checks.made(start);
            int calls = 10 + random.nextInt(100);
            for (int i = 0; i < calls; i++) {
                Made made = new Made(random.nextInt(CALLS), any(), any(), any(), random.nextLong());
                int answer = answer(x, made);
                checks.due("call " + made + " answers as told", answer >= SwapSteps.SPENT ? 1 : 0, 1);
                // the twin has no call that is refused
                if (answer >= SwapSteps.NONE) {
                    checks.due("call " + made + " of the twin", answer(twin, made), answer);
                }
            }
            checks.due("refused calls changed nothing", Look.at(x).equals(Look.at(twin)) ? 1 : 0, 1);
        }
        checks.finish();
    }

    private static int any() {
        switch (random.nextInt(5)) {
            case 0:
                return EDGES[random.nextInt(EDGES.length)];
            case 1:
                return random.nextInt();
            default:
                return random.nextInt(7) - 1;
        }
    }

    private static int answer(SwapSteps x, Made made) {
        int a = made.a();
        int b = made.b();
        int c = made.c();
        switch (made.call()) {
            case 0: return x.write(made.bytes(), a);
            case 1: return x.erase();
            case 2: return x.fault();
            case 3: return x.told();
            case 4: return x.free(a, b, c > 2);
            case 5: return x.add(a, b);
            case 6: return x.clear(a);
            case 7: return x.letter(a, b, c);
            case 8: return x.same(a, b);
            case 9: return x.apart(a, b);
            case 10: return x.layer(a, b);
            case 11: return x.ahead(a, b, c);
            case 12: return x.begins(a, b);
            case 13: return x.join(a, b, c);
            case 14: return x.left(a, b, c);
            case 15: return x.shared(a, b, c);
            case 16: return x.both(a, b, c);
            case 17: return x.mirror(a);
            case 18: return x.part(a, b);
            case 19: return x.root(a);
            case 20: return x.circle(a);
            case 21: return x.turned(a, b);
            case 22: return x.together(a);
            case 23: return x.many(a);
            case 24: return x.of(a, b, c);
            case 25: return x.place(a);
            case 26: return x.reader(a, b);
            case 27: return x.move(a, b, c);
            case 28: return x.minds();
            case 29: return x.run(a, b);
            case 30: return x.taken(a);
            default: return x.count(a);
        }
    }
}
