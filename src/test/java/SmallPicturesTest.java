import java.util.ArrayList;
import java.util.HashSet;
import java.util.List;
import java.util.Set;

/**
 * Every picture of 3 by 3 pixels with both connectivities, and every state of it that removals and
 * insertions can reach: all answers about a state must agree with those of the model.
 */
public final class SmallPicturesTest {
    private static final int SIDE = 3;
    private static final int CALLS = 512;

    /** A state, known by which vertices are present, and the step that first led to it. */
    private record State(long present, State before, int place) {
    }

    private final int picture;
    private final int connectivity;
    /** The vertices of all contours, counted through: the place of one is its bit in a state. */
    private final List<int[]> vertices = new ArrayList<>();
    private final List<State> states = new ArrayList<>();
    private final Set<Long> seen = new HashSet<>();
    private ContourSimplifier s;
    private Model m;
    private int calls;
    private int contourCount;
    private State looked;

    private SmallPicturesTest(int picture, int connectivity) {
        this.picture = picture;
        this.connectivity = connectivity;
    }

    public static void main(String[] args) {
        long count = 0;
        for (int picture = 0; picture < 1 << SIDE * SIDE; picture++) {
            count += new SmallPicturesTest(picture, 4).walk();
            count += new SmallPicturesTest(picture, 8).walk();
        }
        System.out.println(count + " states");
        Check.end();
    }

    /** Answers how many states there are. */
    private int walk() {
        start();
        lookAtTraced();
        reach(new State((1L << vertices.size()) - 1, null, 0));
        for (int i = 0; i < states.size(); i++) {
            looked = states.get(i);
            start();
            goTo(looked);
            look();
            if (calls > CALLS) {
                Check.due(name() + ": calls", calls, CALLS);
            }
        }
        return states.size();
    }

    private void reach(State state) {
        if (seen.add(state.present)) {
            states.add(state);
        }
    }

    private String name() {
        String present = looked == null ? "traced" : Long.toBinaryString(looked.present);
        return "picture " + picture + ", connectivity " + connectivity + ", present " + present;
    }

    private void agree(String call, int got, int want) {
        calls++;
        if (got != want) {
            Check.due(name() + ": " + call, got, want);
        }
    }

    /** Each state has an object of its own, as no answer is promised after so many calls. */
    private void start() {
        s = new ContourSimplifier();
        m = new Model();
        calls = 0;
        agree("reset", s.reset(SIDE, SIDE), m.reset(SIDE, SIDE));
        for (int i = 0; i < SIDE * SIDE; i++) {
            if ((picture >> i & 1) == 1) {
                agree("set", s.set(i % SIDE, i / SIDE, 1), m.set(i % SIDE, i / SIDE, 1));
            }
        }
        contourCount = m.trace(1, connectivity);
        agree("trace", s.trace(1, connectivity), contourCount);
    }

    private void goTo(State state) {
        if (state.before == null) {
            return;
        }
        goTo(state.before);
        int c = vertices.get(state.place)[0];
        int v = vertices.get(state.place)[1];
        if ((state.before.present >> state.place & 1) == 1) {
            agree("remove " + c + " " + v, s.remove(c, v), m.remove(c, v));
        } else {
            agree("insert " + c + " " + v, s.insert(c, v), m.insert(c, v));
        }
    }

    private void lookAtTraced() {
        for (int c = 0; c < contourCount; c++) {
            for (int what = 0; what <= 8; what++) {
                agree("contour " + c + " " + what, s.contour(c, what), m.contour(c, what));
            }
            for (int v = 0; v < m.contour(c, 3); v++) {
                vertices.add(new int[] {c, v});
                agree("x of " + c + " " + v, s.vertex(c, v, 0), m.vertex(c, v, 0));
                agree("y of " + c + " " + v, s.vertex(c, v, 1), m.vertex(c, v, 1));
            }
        }
    }

    private void look() {
        int next = Model.NONE;
        int leastSize = Integer.MAX_VALUE;
        for (int place = 0; place < vertices.size(); place++) {
            int c = vertices.get(place)[0];
            int v = vertices.get(place)[1];
            int isPresent = (int) (looked.present >> place & 1);
            int size = m.vertex(c, v, 3);
            int canChange = m.vertex(c, v, 4);
            agree("vertex " + c + " " + v + " 2", s.vertex(c, v, 2), isPresent);
            agree("vertex " + c + " " + v + " 3", s.vertex(c, v, 3), size);
            agree("vertex " + c + " " + v + " 4", s.vertex(c, v, 4), canChange);
            if (canChange == 1) {
                reach(new State(looked.present ^ 1L << place, looked, place));
            }
            if (canChange == 1 && isPresent == 1 && size < leastSize) {
                next = 1000 * c + v;
                leastSize = size;
            }
        }
        agree("next", s.next(), next);
        for (int c = 0; c < contourCount; c++) {
            agree("area of polygon " + c, s.contour(c, 6), m.contour(c, 6));
            agree("bySize " + c, s.bySize(c), m.bySize(c));
            agree("deviation " + c + " 0", s.deviation(c, 0), m.deviation(c, 0));
            agree("deviation " + c + " 1", s.deviation(c, 1), m.deviation(c, 1));
        }
        agree("misfit", s.misfit(), m.misfit());
    }
}
