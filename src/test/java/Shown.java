import java.util.function.Supplier;

/** All that later calls show of a graph, as texts. Copies are asked, so the graph itself stays as it is. */
final class Shown {
    private static final int[] SOME_NODES = {1, 2, 3, 4, 39, 40};

    private Shown() {
    }

    static String all(Graph graph) {
        return town(graph) + latest(graph) + tape(graph);
    }

    /** What the calls tell of the town, and what a print and a check of it now would be. */
    static String town(Graph graph) {
        return counts(graph.copy()) + pieces(graph.copy()) + speedsAndNames(graph.copy()) + spots(graph.copy())
                + turns(graph.copy()) + Due.printed(graph.copy()) + ' ' + Due.faults(graph.copy());
    }

    /** The latest place, print and check. */
    static String latest(Graph graph) {
        return "place " + graph.copy().place() + " print " + Due.latestPrint(graph.copy())
                + " faults " + latestFaults(graph.copy());
    }

    /** How long the tape is, and what it makes of the town when a semicolon ends it. */
    static String tape(Graph graph) {
        Graph copy = graph.copy();
        return " tape " + told(() -> copy.sign(';', 1)) + told(copy::read) + copy.place() + Due.printed(copy);
    }

    private static String told(Supplier<Object> call) {
        try {
            return call.get() + " ";
        } catch (RuntimeException e) {
            return e.getClass().getSimpleName() + " ";
        }
    }

    private static String counts(Graph graph) {
        StringBuilder text = new StringBuilder();
        for (int what = 0; what <= 4; what++) {
            text.append(graph.count(what)).append(' ');
        }
        return text.toString();
    }

    private static String pieces(Graph graph) {
        StringBuilder text = new StringBuilder();
        for (int number = 1; number <= 60; number++) {
            String first = told(first(graph, number));
            text.append(number).append(' ').append(first);
            for (int what = 1; what <= 7 && isThere(first); what++) {
                text.append(graph.piece(number, what)).append(' ');
            }
        }
        return text.toString();
    }

    private static String speedsAndNames(Graph graph) {
        StringBuilder text = new StringBuilder();
        for (int number = 1; number <= 60; number++) {
            boolean there = isThere(told(first(graph, number)));
            for (int hour = 0; hour < 24 && there; hour++) {
                text.append(graph.speed(number, hour)).append(' ');
            }
            for (int i = 0; i <= 8 && there; i++) {
                text.append(graph.name(number, i)).append(' ');
            }
        }
        return text.toString();
    }

    private static Supplier<Object> first(Graph graph, int number) {
        return () -> graph.piece(number, 0);
    }

    private static boolean isThere(String told) {
        return Character.isDigit(told.charAt(0));
    }

    private static String spots(Graph graph) {
        StringBuilder text = new StringBuilder();
        for (int i = 1; i <= 30; i++) {
            int number = i;
            for (boolean station : new boolean[] {false, true}) {
                text.append(told(() -> graph.spot(number, station))).append(told(() -> graph.along(number, station)));
            }
        }
        return text.toString();
    }

    private static String turns(Graph graph) {
        StringBuilder text = new StringBuilder();
        for (int a : SOME_NODES) {
            for (int b : SOME_NODES) {
                for (int c : SOME_NODES) {
                    text.append(graph.barred(a, b, c) ? '1' : '0');
                }
            }
        }
        return text.append(' ').toString();
    }

    private static String latestFaults(Graph graph) {
        StringBuilder text = new StringBuilder();
        for (int i = 0; i <= 250; i++) {
            int number = i;
            String kind = told(() -> graph.fault(number, 0));
            if (!isThere(kind)) {
                break;
            }
            text.append(kind).append(graph.fault(i, 1)).append(' ');
        }
        return text.toString();
    }
}
