import java.util.Random;

/** Long runs of texts and calls by fixed seeds, each answer compared with the plain model's. */
public final class RandomRunsTest {
    private static final Due DUE = new Due();
    private static final String SIGNS = "pxhsg=->:rbtfw[]^!\"#@+; 0123456789azq\0\u00ff";
    private static int rightTexts;
    private static int wrongTexts;
    private static int fullTexts;

    public static void main(String[] args) {
        for (int seed = 0; seed < 600; seed++) {
            run(new Random(seed));
        }
        System.out.println(rightTexts + " right texts, " + wrongTexts + " wrong ones, " + fullTexts + " without room");
        DUE.same("texts of every kind", rightTexts > 1000 && wrongTexts > 1000 && fullTexts > 10, true);
        DUE.finish();
    }

    private static void run(Random random) {
        Graph town = new Graph();
        PlainTown plain = new PlainTown();
        // Few numbers make rows that meet one another; all numbers make the edges come.
        boolean narrow = random.nextInt(4) != 0;
        for (int i = 0; i < 8; i++) {
            String text = text(random, narrow);
            if (random.nextInt(2) == 0) {
                text = spoilt(random, text);
            }
            readBoth(town, plain, text);
            if (random.nextInt(16) == 0) {
                DUE.same("clear", town.clear(), plain.turns.size());
                plain.turns.clear();
            }
            compare(town, plain);
        }
    }

    private static void readBoth(Graph town, PlainTown plain, String text) {
        DUE.same("the tape of " + text, Due.write(town, text), text.length());
        String got = "";
        try {
            got += town.read();
        } catch (RuntimeException e) {
            got = e.getClass().getSimpleName();
        }
        int place = PlainTown.place(text);
        String want;
        if (place >= 0) {
            want = "IllegalStateException";
            wrongTexts++;
        } else if (plain.change(text)) {
            want = "" + plain.pieces.size();
            rightTexts++;
        } else {
            want = "UnsupportedOperationException";
            fullTexts++;
        }
        DUE.same("read of " + text, got, want);
        DUE.same("place of " + text, town.place(), place);
    }

    private static void compare(Graph town, PlainTown plain) {
        String printed = plain.printed();
        DUE.same("print", Due.printed(town), printed);
        DUE.same("faults of " + printed, Due.faults(town), plain.faults());
        int[] counts = {plain.pieces.size(), plain.buildings.size(), plain.stations.size(), plain.turns.size(),
            plain.nodeCount()};
        for (int what = 0; what < counts.length; what++) {
            DUE.same("count(" + what + ") of " + printed, town.count(what), counts[what]);
        }
        for (int number : plain.pieces.keySet()) {
            comparePiece(town, plain, number);
        }
        for (int number : plain.buildings.keySet()) {
            DUE.same("spot", town.spot(number, false), plain.spot(number, false));
            DUE.same("along", town.along(number, false), plain.along(number, false));
        }
        for (int number : plain.stations.keySet()) {
            DUE.same("spot", town.spot(number, true), plain.spot(number, true));
            DUE.same("along", town.along(number, true), plain.along(number, true));
        }
        for (int a = 1; a <= 5; a++) {
            for (int b = 1; b <= 5; b++) {
                String turn = "x" + a + "-" + b + "-3;";
                DUE.same(turn, town.barred(a, b, 3), plain.turns.contains(turn));
            }
        }
    }

    private static void comparePiece(Graph town, PlainTown plain, int number) {
        for (int what = 0; what <= 7; what++) {
            DUE.same("piece " + number + ", " + what, town.piece(number, what), plain.piecePart(number, what));
        }
        for (int hour = 0; hour < 24; hour++) {
            DUE.same("speed " + number + ", " + hour, town.speed(number, hour), plain.speed(number, hour));
        }
        String name = plain.name(number);
        for (int i = 0; i <= 8; i++) {
            DUE.same("name " + number + ", " + i, town.name(number, i), i < name.length() ? name.charAt(i) : -1);
        }
    }

    private static String text(Random random, boolean narrow) {
        StringBuilder text = new StringBuilder();
        boolean blanks = random.nextInt(5) == 0;
        boolean turnsOnly = random.nextInt(6) == 0;
        int rows = random.nextInt(14);
        for (int i = 0; i < rows; i++) {
            String row = turnsOnly ? turn(random, narrow) : row(random, narrow);
            if (blanks) {
                row = row.replaceAll("(?<![a-z0-9\"])|(?=[;@+>:=])|$", " ");
                row = row.replaceAll("(\") *([a-z]+) *(\")", "$1$2$3");
            }
            if (text.length() + row.length() <= 380) {
                text.append(row);
            }
        }
        return text.toString();
    }

    private static String row(Random random, boolean narrow) {
        int kind = random.nextInt(12);
        if (kind < 5) {
            return piece(random, narrow);
        }
        int spot = from(random, 1, narrow ? 6 : 30);
        int piece = from(random, 1, narrow ? 9 : 60);
        switch (kind) {
            case 5:
            case 6:
                return "h" + spot + "@" + piece + "+" + from(random, 0, narrow ? 12 : 9999) + ";";
            case 7:
            case 8:
                return "s" + spot + "@" + piece + "+" + from(random, 0, narrow ? 12 : 9999) + ";";
            case 9:
                return random.nextBoolean() ? "gp" + piece + ";" : (random.nextBoolean() ? "gh" : "gs") + spot + ";";
            default:
                return turn(random, narrow);
        }
    }

    private static String turn(Random random, boolean narrow) {
        return "x" + node(random, narrow) + "-" + node(random, narrow) + "-" + node(random, narrow) + ";";
    }

    private static String piece(Random random, boolean narrow) {
        StringBuilder row = new StringBuilder("p").append(from(random, 1, narrow ? 9 : 60)).append('=');
        row.append(node(random, narrow)).append(random.nextBoolean() ? '-' : '>').append(node(random, narrow));
        row.append(':').append(from(random, 1, narrow ? 12 : 9999));
        row.append("rrrrbtfw".charAt(random.nextInt(8))).append(from(random, 1, 99));
        for (int i = random.nextInt(6); i < 3; i++) {
            row.append('[').append(from(random, 0, 12)).append('-').append(from(random, 10, 23));
            row.append(':').append(from(random, 1, 99)).append(']');
        }
        if (random.nextInt(3) == 0) {
            row.append('^').append(from(random, 1, 99));
        }
        if (random.nextInt(3) == 0) {
            row.append('!').append(from(random, 1, 99));
        }
        if (random.nextInt(2) == 0) {
            String letters = narrow ? "abab" : "abcdefgh";
            int length = from(random, 1, narrow ? 2 : 8);
            int start = random.nextInt(letters.length() - length + 1);
            row.append('"').append(letters, start, start + length);
            row.append("\"#").append(from(random, 0, narrow ? 1 : 9));
        }
        return row.append(';').toString();
    }

    private static int node(Random random, boolean narrow) {
        return from(random, 1, narrow ? 8 : 40);
    }

    private static int from(Random random, int low, int high) {
        return low + random.nextInt(high - low + 1);
    }

    /** One or two bytes put in, taken out or put in another's place, or the end cut off. */
    private static String spoilt(Random random, String text) {
        StringBuilder spoilt = new StringBuilder(text);
        for (int times = random.nextInt(3); times >= 0 && spoilt.length() > 0; times--) {
            int place = random.nextInt(spoilt.length());
            char sign = SIGNS.charAt(random.nextInt(SIGNS.length()));
            switch (random.nextInt(6)) {
                case 0:
                    spoilt.insert(place, sign);
                    break;
                case 1:
                    spoilt.deleteCharAt(place);
                    break;
                case 2:
                    spoilt.setLength(place);
                    break;
                case 3:
                    spoilt.insert(place, (char) ('0' + random.nextInt(10)));
                    break;
                case 4:
                    spoilt.insert(place, 1 + random.nextInt(9999));
                    break;
                default:
                    spoilt.setCharAt(place, sign);
                    break;
            }
        }
        return spoilt.toString();
    }
}
