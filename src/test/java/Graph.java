import java.util.ArrayList;
import java.util.List;
import java.util.function.Function;

/**
 * The class under test, each object kept within the 512 calls for which the document promises answers:
 * when an object's calls are used up, a new one is brought to the same state, and the call goes to it.
 */
final class Graph {
    static final int MOST_CALLS = 512;
    /** The calls that a new object needs: those that change something, and all that were refused. */
    private final List<Function<StreetGraph, ?>> lasting = new ArrayList<>();
    private StreetGraph graph = new StreetGraph();
    private int calls;

    /** Another one in the same state; what is done to it leaves this one alone. */
    Graph copy() {
        Graph copy = new Graph();
        copy.lasting.addAll(lasting);
        copy.renew();
        return copy;
    }

    private void renew() {
        graph = new StreetGraph();
        calls = 0;
        for (Function<StreetGraph, ?> call : lasting) {
            try {
                call.apply(graph);
            } catch (RuntimeException e) {
                // It was refused the first time, too, and the test has seen to that.
            }
            calls++;
        }
    }

    private <T> T ask(Function<StreetGraph, T> call) {
        if (calls >= MOST_CALLS) {
            renew();
        }
        if (calls >= MOST_CALLS) {
            throw new AssertionError("a test needs more than 512 calls of one object");
        }
        calls++;
        try {
            return call.apply(graph);
        } catch (RuntimeException e) {
            lasting.add(call);
            throw e;
        }
    }

    private <T> T change(Function<StreetGraph, T> call) {
        T answer = ask(call);
        lasting.add(call);
        return answer;
    }

    int sign(long bytes, int n) {
        return change(g -> g.sign(bytes, n));
    }

    int read() {
        return change(StreetGraph::read);
    }

    int place() {
        return ask(StreetGraph::place);
    }

    int piece(int number, int what) {
        return ask(g -> g.piece(number, what));
    }

    int speed(int number, int hour) {
        return ask(g -> g.speed(number, hour));
    }

    int name(int number, int i) {
        return ask(g -> g.name(number, i));
    }

    boolean barred(int a, int b, int c) {
        return ask(g -> g.barred(a, b, c));
    }

    int clear() {
        return change(StreetGraph::clear);
    }

    int spot(int number, boolean station) {
        return ask(g -> g.spot(number, station));
    }

    int along(int number, boolean station) {
        return ask(g -> g.along(number, station));
    }

    int check() {
        return change(StreetGraph::check);
    }

    int fault(int i, int what) {
        return ask(g -> g.fault(i, what));
    }

    int print() {
        return change(StreetGraph::print);
    }

    int at(int i) {
        return ask(g -> g.at(i));
    }

    int count(int what) {
        return ask(g -> g.count(what));
    }
}
