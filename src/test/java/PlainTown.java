import java.util.ArrayList;
import java.util.LinkedHashSet;
import java.util.List;
import java.util.Map;
import java.util.Set;
import java.util.TreeMap;
import java.util.TreeSet;
import java.util.regex.Matcher;
import java.util.regex.Pattern;

/** The document once more, written in another way: rows as texts, found by patterns. */
final class PlainTown {
    private static final String N = " *(?:0|[1-9][0-9]{0,3})";
    private static final String PIECE = " *p" + N + " *=" + N + " *[->]" + N + " *:" + N + " *[rbtfw]" + N
            + "(?: *\\[" + N + " *-" + N + " *:" + N + " *\\]){0,3}(?: *\\^" + N + ")?(?: *!" + N + ")?"
            + "(?: *\"[a-z]{1,8}\" *#" + N + ")?";
    private static final Pattern TEXT = Pattern.compile("(?:(?:" + PIECE + "| *x" + N + " *-" + N + " *-" + N
            + "| *[hs]" + N + " *@" + N + " *\\+" + N + "| *g *[phs]" + N + ") *;)* *");
    private static final Pattern NUMBER = Pattern.compile("[0-9]+");
    private static final Pattern PIECE_PARTS = Pattern.compile(
            "p(\\d+)=(\\d+)([->])(\\d+):(\\d+)([rbtfw])(\\d+)((?:\\[[^]]*\\])*)(?:\\^(\\d+))?(?:!(\\d+))?"
            + "(?:\"([a-z]+)\"#(\\d))?;");

    Map<Integer, String> pieces = new TreeMap<>();
    Map<Integer, String> buildings = new TreeMap<>();
    Map<Integer, String> stations = new TreeMap<>();
    Set<String> turns = new LinkedHashSet<>();

    /** Where a text is wrong; -1 when it is right. */
    static int place(String text) {
        int viable = 0;
        while (viable <= text.length() && isViable(text.substring(0, viable))) {
            viable++;
        }
        int numberPlace = wrongNumber(text, Math.min(viable - 1, text.length()));
        if (numberPlace >= 0) {
            return numberPlace;
        }
        if (viable <= text.length()) {
            return viable - 1;
        }
        return TEXT.matcher(text).matches() ? -1 : text.length();
    }

    private static boolean isViable(String beginning) {
        Matcher matcher = TEXT.matcher(beginning);
        return matcher.matches() || matcher.hitEnd();
    }

    /** Only the bytes that can begin a right text, so many, hold numbers that are worth a look. */
    private static int wrongNumber(String text, int viable) {
        Matcher matcher = NUMBER.matcher(text.substring(0, viable));
        int former = 0;
        while (matcher.find()) {
            if (matcher.group().length() == 4 && text.substring(matcher.end()).matches("(?s)[0-9].*")) {
                return matcher.end();
            }
            String row = text.substring(text.lastIndexOf(';', matcher.start()) + 1, matcher.start()).replace(" ", "");
            int number = Integer.parseInt(matcher.group());
            if (!isIn(row, number, former)) {
                return matcher.end() - 1;
            }
            former = number;
        }
        return -1;
    }

    private static boolean isIn(String row, int number, int former) {
        char kind = row.charAt(0);
        char sign = row.charAt(row.length() - 1);
        boolean hours = row.lastIndexOf('[') > row.lastIndexOf(']');
        if (kind == 'x') {
            return number >= 1 && number <= 40;
        }
        switch (sign) {
            case 'h':
            case 's':
                return number >= 1 && number <= 30;
            case 'p':
            case '@':
                return number >= 1 && number <= 60;
            case '+':
                return number >= 0 && number <= 9999;
            case '=':
                return number >= 1 && number <= 40;
            case '>':
                return number >= 1 && number <= 40 && number != former;
            case '-':
                return hours ? number >= former && number <= 23 : number >= 1 && number <= 40 && number != former;
            case ':':
                return number >= 1 && number <= (hours ? 99 : 9999);
            case '[':
                return number <= 23;
            case '#':
                return number <= 9;
            default:
                return number >= 1 && number <= 99;
        }
    }

    /** Lets a right text change the town; false, and nothing changed, when turns have no room. */
    boolean change(String text) {
        Set<String> allTurns = new LinkedHashSet<>(turns);
        List<String> rows = new ArrayList<>();
        for (String row : text.replace(" ", "").split(";")) {
            if (row.startsWith("x")) {
                allTurns.add(row + ";");
            } else if (!row.isEmpty()) {
                rows.add(row + ";");
            }
        }
        if (allTurns.size() > 20) {
            return false;
        }
        turns = allTurns;
        for (String row : rows) {
            boolean gone = row.startsWith("g");
            String rest = gone ? row.substring(1) : row;
            Map<Integer, String> map = mapOf(rest.charAt(0));
            int number = firstNumber(rest);
            if (gone) {
                map.remove(number);
            } else {
                map.put(number, row);
            }
        }
        return true;
    }

    private Map<Integer, String> mapOf(char sign) {
        return sign == 'p' ? pieces : sign == 'h' ? buildings : stations;
    }

    private static int firstNumber(String row) {
        Matcher matcher = NUMBER.matcher(row);
        return matcher.find() ? Integer.parseInt(matcher.group()) : 0;
    }

    String printed() {
        return String.join("", pieces.values()) + String.join("", buildings.values())
                + String.join("", stations.values()) + String.join("", turns);
    }

    private static Matcher partsOf(String piece) {
        Matcher matcher = PIECE_PARTS.matcher(piece);
        if (!matcher.matches()) {
            throw new AssertionError(piece);
        }
        return matcher;
    }

    private static int numberOr(String text, int otherwise) {
        return text == null ? otherwise : Integer.parseInt(text);
    }

    int piecePart(int number, int what) {
        Matcher parts = partsOf(pieces.get(number));
        int[] all = {
            numberOr(parts.group(2), 0), numberOr(parts.group(4), 0), numberOr(parts.group(5), 0),
            "rbtfw".indexOf(parts.group(6)), parts.group(3).equals(">") ? 1 : 0,
            numberOr(parts.group(9), 0), numberOr(parts.group(10), 0), numberOr(parts.group(12), -1)};
        return all[what];
    }

    int speed(int number, int hour) {
        Matcher parts = partsOf(pieces.get(number));
        Matcher hours = Pattern.compile("\\[(\\d+)-(\\d+):(\\d+)\\]").matcher(parts.group(8));
        while (hours.find()) {
            if (Integer.parseInt(hours.group(1)) <= hour && hour <= Integer.parseInt(hours.group(2))) {
                return Integer.parseInt(hours.group(3));
            }
        }
        return Integer.parseInt(parts.group(7));
    }

    String name(int number) {
        String name = partsOf(pieces.get(number)).group(11);
        return name == null ? "" : name;
    }

    int spot(int number, boolean station) {
        String row = (station ? stations : buildings).get(number);
        return Integer.parseInt(row.substring(row.indexOf('@') + 1, row.indexOf('+')));
    }

    int along(int number, boolean station) {
        String row = (station ? stations : buildings).get(number);
        return Integer.parseInt(row.substring(row.indexOf('+') + 1, row.indexOf(';')));
    }

    int nodeCount() {
        Set<Integer> nodes = new TreeSet<>();
        for (int number : pieces.keySet()) {
            nodes.add(piecePart(number, 0));
            nodes.add(piecePart(number, 1));
        }
        return nodes.size();
    }

    /** The ways of one step, over all pieces or over those for wheels. */
    private boolean[][] steps(boolean wheelsOnly) {
        boolean[][] steps = new boolean[41][41];
        for (int number : pieces.keySet()) {
            if (wheelsOnly && piecePart(number, 3) > 2) {
                continue;
            }
            int first = piecePart(number, 0);
            int second = piecePart(number, 1);
            steps[first][second] = true;
            steps[second][first] |= piecePart(number, 4) == 0;
        }
        return steps;
    }

    private static boolean[][] ways(boolean[][] steps) {
        for (int k = 1; k <= 40; k++) {
            steps[k][k] = true;
            for (int i = 1; i <= 40; i++) {
                for (int j = 1; j <= 40; j++) {
                    steps[i][j] |= steps[i][k] && steps[k][j];
                }
            }
        }
        return steps;
    }

    /** The faults as kind/number with a blank behind each. */
    String faults() {
        List<int[]> found = new ArrayList<>();
        boolean[][] steps = steps(false);
        unreached(found);
        for (int node = 1; node <= 40; node++) {
            boolean in = false;
            boolean out = false;
            for (int other = 1; other <= 40; other++) {
                in |= steps[other][node];
                out |= steps[node][other];
            }
            if (in && !out) {
                found.add(new int[] {6, node});
            }
        }
        Set<Integer> walls = new TreeSet<>();
        for (String turn : turns) {
            String[] n = turn.substring(1, turn.length() - 1).split("-");
            int b = Integer.parseInt(n[1]);
            if (!n[0].equals(n[2]) && turns.contains("x" + n[2] + "-" + n[1] + "-" + n[0] + ";")) {
                walls.add(b);
            }
            if (!steps[Integer.parseInt(n[0])][b] || !steps[b][Integer.parseInt(n[2])]) {
                found.add(new int[] {4, b});
            }
        }
        for (int wall : walls) {
            found.add(new int[] {5, wall});
        }
        Set<String> names = new TreeSet<>();
        for (int number : pieces.keySet()) {
            String name = name(number) + piecePart(number, 7);
            if (!name(number).isEmpty() && !names.add(name)) {
                found.add(new int[] {3, number});
            }
        }
        lost(found, true);
        lost(found, false);
        found.sort((a, b) -> a[0] != b[0] ? a[0] - b[0] : a[1] - b[1]);
        StringBuilder text = new StringBuilder();
        for (int[] fault : found) {
            text.append(fault[0]).append('/').append(fault[1]).append(' ');
        }
        return text.toString();
    }

    private void lost(List<int[]> found, boolean station) {
        for (int number : (station ? stations : buildings).keySet()) {
            int piece = spot(number, station);
            if (!pieces.containsKey(piece) || along(number, station) > piecePart(piece, 2)) {
                found.add(new int[] {station ? 2 : 1, number});
            }
        }
    }

    private void unreached(List<int[]> found) {
        boolean[][] ways = ways(steps(true));
        int lowest = 0;
        for (int number : stations.keySet()) {
            int piece = spot(number, true);
            if (!pieces.containsKey(piece)) {
                continue;
            }
            lowest = lowest == 0 ? piece : lowest;
            boolean reached = piece == lowest;
            for (int end = 0; end <= 1; end++) {
                for (int other = 0; other <= 1; other++) {
                    reached |= ways[piecePart(lowest, end)][piecePart(piece, other)];
                }
            }
            if (!reached || piecePart(piece, 3) > 2) {
                found.add(new int[] {7, number});
            }
        }
    }
}
