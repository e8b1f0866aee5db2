/** All that an object's answers tell of what it holds. The look uses the object up: it has some 280 calls. */
final class Look {
    private final StringBuilder seen = new StringBuilder();
    private final SwapSteps x;

    private Look(SwapSteps x) {
        this.x = x;
    }

    static String at(SwapSteps x) {
        Look look = new Look(x);
        look.atCountsAndRows();
        look.atPairs();
        look.atReader();
        look.note(x.fault());
        look.note(x.told());
        look.atCountsAndRows();
        return look.seen.toString();
    }

    private void note(int answer) {
        seen.append(answer).append(' ');
    }

    private void atCountsAndRows() {
        for (int what = 0; what <= 6; what++) {
            note(x.count(what));
        }
        for (int heap = 0; heap <= 3; heap++) {
            seen.append(Checks.row(x, heap, 0)).append(", ");
        }
    }

    private void atPairs() {
        for (int p = 0; p < 6; p++) {
            for (int q = p + 1; q < 6; q++) {
                note(x.free(p, q, false));
            }
        }
    }

    private void atReader() {
        for (int state = 0; state < 5; state++) {
            for (int letter = 0; letter < 6; letter++) {
                note(x.move(state, letter, 0));
            }
        }
        // with one a, the state behind it is whichever the move of state 0 leads to
        x.clear(0);
        x.add(0, 0);
        for (int state = 0; state < 5; state++) {
            x.move(0, 0, state);
            note(x.run(0, 1));
        }
    }
}
