/** How long an object is used, and promises 1 to 4: each method has one of their bounds, both sides of it. */
public final class BoundsOfPromises1To4Test {
    private static final Due DUE = new Due();
    private static final int[] FAR = {Integer.MIN_VALUE, Integer.MAX_VALUE, Integer.MIN_VALUE + 1, 257, 65537};
    private static final String PIECE = "p1=1-2:3r4;";

    public static void main(String[] args) {
        atMost512Calls();
        anEmptyTown();
        sign();
        read();
        place();
        DUE.finish();
    }

    /** This one does not use Graph, which makes a new object when 512 calls are used up. */
    private static void atMost512Calls() {
        DUE.about("What it is", "An object is used for at most 512 calls after it has been made");
        StreetGraph town = new StreetGraph();
        int calls = 0;
        // A round has five calls: a row of two signs is read, looked at and checked.
        for (int round = 0; round < 72; round++) {
            int number = 1 + round % 60;
            String row = "p" + number + "=1-2:" + (100 + round) + "r" + (10 + round % 90) + ";";
            calls += write(town, row);
            DUE.same("pieces, call " + ++calls, town.read(), Math.min(round + 1, 60));
            DUE.same("length, call " + ++calls, town.piece(number, 2), 100 + round);
            DUE.same("check, call " + ++calls, town.check(), 0);
        }
        while (calls < 510) {
            DUE.same("place, call " + ++calls, town.place(), -1);
        }
        DUE.same("call 511", town.speed(60, 23), 10 + 59);
        DUE.same("call 512", town.count(0), 60);
        // What the 513th answers is free, but it ends, and the machine throws nothing in it.
        town.print();
    }

    private static int write(StreetGraph town, String text) {
        int calls = 0;
        for (int from = 0; from < text.length(); from += 8) {
            int to = Math.min(text.length(), from + 8);
            long bytes = 0;
            for (int i = from; i < to; i++) {
                bytes = bytes << 8 | text.charAt(i);
            }
            town.sign(bytes, to - from);
            calls++;
        }
        return calls;
    }

    private static void anEmptyTown() {
        DUE.about("Promise 1: A new object", "An empty town.");
        Graph town = new Graph();
        for (int what = 0; what <= 4; what++) {
            DUE.same("count(" + what + ")", town.count(what), 0);
        }
        DUE.same("place", town.place(), -1);
        DUE.same("print", town.print(), 0);
        DUE.same("check", town.check(), 0);
        DUE.same("clear", town.clear(), 0);
        DUE.same("read", town.read(), 0);
        for (int number : new int[] {1, 60}) {
            DUE.unknown(town, "piece " + number, () -> town.piece(number, 0));
            DUE.unknown(town, "speed " + number, () -> town.speed(number, 0));
            DUE.unknown(town, "name " + number, () -> town.name(number, 0));
        }
        for (int number : new int[] {1, 30}) {
            DUE.unknown(town, "building " + number, () -> town.spot(number, false));
            DUE.unknown(town, "station " + number, () -> town.along(number, true));
        }
        DUE.same("a turn", town.barred(1, 1, 1) || town.barred(40, 40, 40), false);
        Graph other = Due.someTown();
        DUE.same("an object that is made behind another one's calls", Shown.all(new Graph()), Shown.all(town));
        DUE.same("the other one", other.count(0), 3);
    }

    private static void sign() {
        nBytes1To8();
        theLowestN();
        theHighestOfTheseFirst();
        moreOnTheTapeHowMany();
        thereWouldBeMoreThan400();
    }

    private static void nBytes1To8() {
        DUE.about("Promise 2: sign", "n bytes (1 .. 8;");
        for (int n = 1; n <= 8; n++) {
            DUE.same("sign of " + n + " bytes", new Graph().sign(0x2020_2020_2020_2020L, n), n);
        }
        Graph town = Due.someTownAndTape();
        for (int n : new int[] {0, 9, -1, -8, 16}) {
            DUE.outside(town, "sign of " + n + " bytes", () -> town.sign(0x2020_2020_2020_2020L, n));
        }
        for (int n : FAR) {
            DUE.outside(town, "sign of " + n + " bytes", () -> town.sign(0x2020_2020_2020_2020L, n));
        }
        DUE.same("the next byte", town.sign(';', 1), 16);
        DUE.same("pieces", town.read(), 4);
    }

    private static void theLowestN() {
        DUE.about("Promise 2: sign", "the lowest n");
        long bytes = 0x6731_3233_3435_3637L;
        for (int n = 1; n <= 7; n++) {
            Graph town = Due.townOf();
            Due.write(town, "gp");
            DUE.same("sign", town.sign(0xffff_ffff_ffff_ff00L << 8 * (n - 1) | ' ', n), n + 2);
            int place = n == 1 ? 3 : 2;
            DUE.wrongRead(town, "gp and " + n + " bytes of which the highest is 0", place);
        }
        for (int n = 1; n <= 4; n++) {
            Graph town = new Graph();
            Due.write(town, "h1@1+");
            town.sign(bytes, n);
            Due.write(town, ";");
            town.read();
            DUE.same("metres of " + n + " bytes", town.along(1, false), Integer.parseInt("4567".substring(4 - n)));
        }
        Graph whole = new Graph();
        DUE.same("all eight", whole.sign(0x6831_4032_2b33_343bL, 8), 8);
        whole.read();
        DUE.same("what they make", Due.printed(whole), "h1@2+34;");
        Graph negative = new Graph();
        negative.sign(-1, 8);
        DUE.wrongRead(negative, "eight bytes 255", 0);
    }

    private static void theHighestOfTheseFirst() {
        DUE.about("Promise 2: sign", "the highest of these first) more on the tape");
        Graph town = new Graph();
        town.sign(0x6870L, 1);
        DUE.wrongRead(town, "p alone", 1);
        town.sign(0x6770L, 2);
        town.sign(0x313bL, 2);
        DUE.same("gp1; of two times two bytes", town.read(), 0);
        town.sign(0x3b31_7067L, 4);
        DUE.wrongRead(town, "the same backwards", 0);
    }

    private static void moreOnTheTapeHowMany() {
        DUE.about("Promise 2: sign", "more on the tape: how many.");
        Graph town = new Graph();
        int length = 0;
        for (int n = 1; n <= 8; n++) {
            length += n;
            DUE.same("the tape behind " + n + " more", town.sign(0x2020_2020_2020_2020L, n), length);
        }
        town.read();
        DUE.same("the next tape", town.sign(' ', 1), 1);
    }

    private static void thereWouldBeMoreThan400() {
        DUE.about("Promise 2: sign", "there would be more than 400");
        for (int n = 1; n <= 8; n++) {
            int more = n;
            Graph full = Due.someTown();
            Due.write(full, " ".repeat(400 - n));
            DUE.same("up to 400 by " + n, full.sign(0x2020_2020_2020_2020L, n), 400);
            DUE.noRoom(full, "one more", () -> full.sign(' ', 1));
            DUE.same("400 blanks", full.read(), 3);
            Graph over = Due.someTown();
            Due.write(over, PIECE + " ".repeat(401 - n - PIECE.length()));
            DUE.noRoom(over, "up to 401 by " + n, () -> over.sign(0x2020_2020_2020_2020L, more));
            DUE.same("the tape without them", over.copy().read(), 3);
            if (n > 1) {
                DUE.same("up to 400 by one less", over.sign(0x2020_2020_2020_2020L, n - 1), 400);
            }
            DUE.same("the full tape", over.read(), 3);
            DUE.same("that it was read", over.piece(1, 2), 3);
        }
    }

    private static void read() {
        theTapeUsedUp();
        usedUpAlsoWhenThisThrows();
        howManyPiecesThereAre();
        itIsWrong();
        moreThan20BarredTurns();
        wrongComesBeforeNoRoom();
    }

    private static void theTapeUsedUp() {
        DUE.about("Promise 3: read", "The tape (used up,");
        Graph town = Due.townOf(PIECE);
        Due.read(town, "gp1;h1@1+1;");
        Due.read(town, PIECE);
        DUE.same("an empty tape", town.read(), 1);
        DUE.same("the town", Due.printed(town), PIECE + "h1@1+1;");
        DUE.same("the next byte is the first", town.sign('q', 1), 1);
        DUE.wrongRead(town, "q", 0);
    }

    private static void usedUpAlsoWhenThisThrows() {
        DUE.about("Promise 3: read", "(used up, also when this throws)");
        Graph town = new Graph();
        Due.write(town, "gp1;q" + " ".repeat(395));
        DUE.wrongRead(town, "a wrong text of 400 bytes", 4);
        DUE.same("a text behind it", Due.read(town, PIECE), 1);
        Due.write(town, twenty() + "x40-40-40;");
        DUE.readWithoutRoom(town, "a text without room");
        DUE.same("400 bytes of room", Due.write(town, " ".repeat(400)), 400);
        DUE.same("a text behind it", town.read(), 1);
        DUE.same("place behind it", town.place(), -1);
    }

    private static String twenty() {
        StringBuilder turns = new StringBuilder();
        for (int node = 1; node <= 20; node++) {
            turns.append('x').append(node).append("-2-3;");
        }
        return turns.toString();
    }

    private static void howManyPiecesThereAre() {
        DUE.about("Promise 3: read", "changes the town: how many pieces there are.");
        Graph town = new Graph();
        DUE.same("none", Due.read(town, "h1@1+1;s1@1+1;x1-2-3;"), 0);
        for (int number = 1; number <= 60; number++) {
            DUE.same("up to " + number, Due.read(town, "p" + number + "=1-2:3r4;"), number);
        }
        DUE.same("all 60 there already", Due.read(town, "p1=3-4:5b6;p60=3-4:5b6;"), 60);
        DUE.same("one gone", Due.read(town, "gp60;"), 59);
        DUE.same("one more gone", Due.read(town, "gp1;gp60;"), 58);
        DUE.same("no text", town.read(), 58);
    }

    private static void itIsWrong() {
        DUE.about("Promise 3: read", "IllegalStateException: it is wrong");
        Graph town = Due.someTown();
        DUE.wrongAt(town, "q", 0);
        DUE.wrongAt(town, "gp1", 3);
        DUE.wrongAt(town, "gp60;gs30;q", 10);
        DUE.same("a right one behind them", Due.read(town, "gp60;"), 2);
    }

    private static void moreThan20BarredTurns() {
        DUE.about("Promise 3: read", "there would be more than 20 barred turns (place() is -1 then, nothing is changed)");
        Graph town = Due.someTown();
        DUE.same("some turns", town.count(3), 3);
        // x3-2-1 is not among the twenty, x1-2-3 is.
        String eighteen = twenty().substring(0, twenty().indexOf("x19"));
        DUE.same("18 with x1-2-3 and two more", Due.read(town.copy(), eighteen), 3);
        DUE.same("place", town.place(), 2);
        Due.write(town, twenty());
        DUE.readWithoutRoom(town, "20 beside two others");
        Due.write(town, "gp1;gp2;p9=1-2:3r4;h9@9+9;s9@9+9;gh30;gs30;" + twenty());
        DUE.readWithoutRoom(town, "20 beside two others, and changes before them");
        Due.write(town, twenty() + "gp1;gp2;p9=1-2:3r4;h9@9+9;s9@9+9;");
        DUE.readWithoutRoom(town, "20 beside two others, and changes behind them");
        Due.read(town, eighteen);
        DUE.same("20 turns", town.count(3), 20);
        DUE.same("known turns", Due.read(town, eighteen + "x40-40-40;"), 3);
        Due.write(town, "x39-40-40;");
        DUE.readWithoutRoom(town, "the 21st turn");
        DUE.same("clear", town.clear(), 20);
        DUE.same("room for 20 behind clear", Due.read(town, twenty()), 3);
        DUE.same("20 turns again", town.count(3), 20);
    }

    private static void wrongComesBeforeNoRoom() {
        DUE.about("Terms", "not in this state IllegalStateException, no room UnsupportedOperationException;");
        Graph town = Due.townOf(twenty());
        Due.write(town, "x40-40-40;q");
        DUE.wrongRead(town, "a turn too many and a wrong byte behind it", 10);
        Due.write(town, "x40-40-40");
        DUE.wrongRead(town, "a turn too many without its semicolon", 9);
        Due.write(town, "x40-40-40;");
        DUE.readWithoutRoom(town, "a turn too many");
        DUE.about("Terms", "outside of a range IndexOutOfBoundsException");
        Due.write(town, " ".repeat(400));
        DUE.outside(town, "9 bytes on a full tape", () -> town.sign(0, 9));
        DUE.outside(town, "0 bytes on a full tape", () -> town.sign(0, 0));
        DUE.noRoom(town, "8 bytes on a full tape", () -> town.sign(0, 8));
    }

    private static void place() {
        whereTheLatestTextWasWrong();
        whenItWasRightOrThereWasNone();
    }

    private static void whereTheLatestTextWasWrong() {
        DUE.about("Promise 4: place", "Where the latest text was wrong;");
        Graph town = new Graph();
        for (int place : new int[] {0, 1, 7, 8, 399, 0}) {
            Due.write(town, " ".repeat(place) + "q");
            DUE.wrongRead(town, "q behind " + place + " blanks", place);
        }
        Due.write(town, " ".repeat(399) + "p");
        DUE.wrongRead(town, "p at the end of a full tape", 400);
        DUE.same("place, asked again", town.place(), 400);
        Due.write(town, PIECE);
        DUE.same("place before the next read", town.place(), 400);
        town.clear();
        town.check();
        town.print();
        DUE.same("place behind other calls", town.place(), 400);
        DUE.outside(town, "a refused sign", () -> town.sign(0, 9));
        DUE.same("place behind a refused call", town.place(), 400);
    }

    private static void whenItWasRightOrThereWasNone() {
        DUE.about("Promise 4: place", "-1 when it was right, or there was none.");
        Graph town = new Graph();
        DUE.same("place of none", town.place(), -1);
        Due.write(town, "q");
        DUE.same("place before the first read", town.place(), -1);
        DUE.wrongRead(town, "q", 0);
        town.read();
        DUE.same("place of an empty text", town.place(), -1);
        Due.write(town, "gp?");
        DUE.wrongRead(town, "gp?", 2);
        Due.read(town, PIECE);
        DUE.same("place of a right text", town.place(), -1);
        Due.write(town, "gp?");
        DUE.wrongRead(town, "gp?", 2);
        Due.write(town, twenty() + "x40-40-40;");
        DUE.readWithoutRoom(town, "a turn too many");
        DUE.same("place of a text without room", town.place(), -1);
    }
}
