import java.util.ArrayList;
import java.util.List;

/** All answers of an object on what there is, so that two objects can be held against each other. */
final class State {
    static final String FORK =
        "nodes 8;link 0 1;link 1 2;link 2 4;link 1 3;link 3 4;link 5 6;map 1;wait 20;";

    /** An object is good for 512 calls: so many are left for those that bring it into its state. */
    private static final int MOST_CALLS = 420;

    private final SourceRoutes x;
    private final List<Integer> answers = new ArrayList<>();

    private State(SourceRoutes x) {
        this.x = x;
    }

    static List<Integer> of(SourceRoutes x) {
        State state = new State(x);
        state.counts();
        state.nodes();
        state.data();
        state.air();
        if (state.answers.size() > MOST_CALLS) {
            throw new IllegalStateException("a state that takes " + state.answers.size() + " calls");
        }
        return state.answers;
    }

    private void row(Check.Answers row) {
        int answer = 0;
        for (int i = 0; answer != SourceRoutes.NONE; i++) {
            answer = row.at(i);
            answers.add(answer);
        }
    }

    private void counts() {
        for (int what = 0; what <= 11; what++) {
            answers.add(x.has(what));
        }
        for (int what = 0; what <= 10; what++) {
            answers.add(x.tally(what));
        }
        answers.add(x.fault(false));
        answers.add(x.fault(true));
    }

    private void nodes() {
        for (int n = 0; n < answers.get(0); n++) {
            int node = n;
            int first = answers.size();
            for (int what = 0; what <= 9; what++) {
                answers.add(x.node(node, what));
            }
            for (int k = 0; k < answers.get(first + 2); k++) {
                int entry = k;
                row(i -> x.kept(node, entry, i));
            }
            row(k -> x.seen(node, k));
            row(k -> x.waits(node, k));
        }
    }

    private void data() {
        for (int d = 0; d < answers.get(9); d++) {
            int data = d;
            for (int what = 0; what <= 8; what++) {
                answers.add(x.data(data, what));
            }
            row(i -> x.trail(data, i, false));
            row(i -> x.trail(data, i, true));
        }
    }

    private void air() {
        for (int k = 0; k < answers.get(10); k++) {
            int frame = k;
            for (int what = 0; what <= 5; what++) {
                answers.add(x.air(frame, what));
            }
            row(i -> x.row(frame, i));
        }
    }

    /**
     * FRAMES of all four kinds, BUFFERED DATA, a MAP, NEWS; a FAULT; THE TEXT has 396 bytes, a NET of 5
     * NODES; an image is kept as 1, and it is another one by now.
     */
    static SourceRoutes busy() {
        SourceRoutes x = Check.net(FORK);
        x.send(0, 4);
        x.send(7, 0);
        x.send(7, 1);
        x.ticks(6);
        x.image(1);
        x.ticks(1);
        x.turn(1, 2, true);
        x.send(5, 6);
        x.send(2, 3);
        x.ticks(1);
        Check.tell(x, "map 9;");
        x.net();
        Check.tell(x, "nodes 5;" + " ".repeat(388));
        return x;
    }

    /**
     * DATA that were DELIVERED, LOST, shortened, and BUFFERED anew after a BREAK; one more is to be shortened
     * by listening; a NODE is DEAF.
     */
    static SourceRoutes worn() {
        SourceRoutes x = Check.net("nodes 8;link 0 1;link 1 2;link 2 3;link 4 5;deaf 6;map 3;again 9;wait 9;");
        x.send(0, 3);
        x.send(4, 7);
        Check.go(x, 9);
        x.turn(4, 5, true);
        x.send(5, 4);
        x.ticks(5);
        x.turn(0, 2, false);
        x.send(0, 3);
        x.ticks(1);
        x.send(0, 3);
        return x;
    }
}
