import java.util.Arrays;

/** Promises 5 to 11: each method has one of their bounds, both sides of it. */
public final class BoundsOfPromises5To11Test {
    private static final Due DUE = new Due();
    /** Numbers far outside of every range; the lowest byte of some is within one. */
    private static final int[] FAR = {Integer.MIN_VALUE, Integer.MAX_VALUE, Integer.MIN_VALUE + 1, -255, 257, 65537};
    private static final boolean[] BUILDING_AND_STATION = {false, true};

    public static void main(String[] args) {
        piece();
        speed();
        name();
        barred();
        clear();
        spot();
        along();
        DUE.finish();
    }

    /** The numbers of which someTown has no piece: around 1 .. 60, between its pieces, and far away. */
    private static int[] numbersOfNoPiece() {
        return with(-1, 0, 3, 59, 61);
    }

    private static int[] with(int... near) {
        int[] all = Arrays.copyOf(near, near.length + FAR.length);
        System.arraycopy(FAR, 0, all, near.length, FAR.length);
        return all;
    }

    private static void piece() {
        itsNodes();
        itsLength();
        itsKind();
        whetherItGoesOneWay();
        itsHeight();
        itsWeight();
        itsArea();
        thereIsNoSuchPiece();
        noSuchWhatOfAPiece();
        theUnknownPieceComesBeforeTheWhat();
    }

    private static void parts(String row, int what, int want) {
        for (int number : new int[] {1, 60}) {
            Graph town = Due.townOf("p2=9>8:7b6^5!4\"q\"#3;p59=9>8:7b6^5!4\"q\"#3;", "p" + number + row);
            DUE.same("piece(" + number + ", " + what + ") of " + row, town.piece(number, what), want);
        }
    }

    private static void itsNodes() {
        DUE.about("Promise 5: piece", "what 0 its first node, 1 its second one");
        for (String way : new String[] {"-", ">"}) {
            parts("=1" + way + "40:3r4;", 0, 1);
            parts("=1" + way + "40:3r4;", 1, 40);
            parts("=40" + way + "1:3r4;", 0, 40);
            parts("=40" + way + "1:3r4;", 1, 1);
        }
    }

    private static void itsLength() {
        DUE.about("Promise 5: piece", "2 its length");
        parts("=1-2:1r4;", 2, 1);
        parts("=1-2:9999r4;", 2, 9999);
    }

    private static void itsKind() {
        DUE.about("Promise 5: piece", "3 its kind (0 r, 1 b, 2 t, 3 f, 4 w)");
        parts("=1-2:3r4;", 3, 0);
        parts("=1-2:3b4;", 3, 1);
        parts("=1-2:3t4;", 3, 2);
        parts("=1-2:3f4;", 3, 3);
        parts("=1-2:3w4;", 3, 4);
    }

    private static void whetherItGoesOneWay() {
        DUE.about("Promise 5: piece", "4 whether it goes one way (1, 0)");
        parts("=1>2:3r4;", 4, 1);
        parts("=2>1:3r4;", 4, 1);
        parts("=1-2:3r4;", 4, 0);
        parts("=2-1:3r4;", 4, 0);
    }

    private static void itsHeight() {
        DUE.about("Promise 5: piece", "5 its height, 6 its weight (0 none)");
        parts("=1-2:3r4;", 5, 0);
        parts("=1-2:3r4!7;", 5, 0);
        parts("=1-2:3r4^1;", 5, 1);
        parts("=1-2:3r4^99!7;", 5, 99);
        DUE.same("behind a row without one", Due.townOf("p1=1-2:3r4^9!8;", "p1=1-2:3r4!8;").piece(1, 5), 0);
    }

    private static void itsWeight() {
        DUE.about("Promise 5: piece", "5 its height, 6 its weight (0 none)");
        parts("=1-2:3r4;", 6, 0);
        parts("=1-2:3r4^7;", 6, 0);
        parts("=1-2:3r4!1;", 6, 1);
        parts("=1-2:3r4^7!99;", 6, 99);
        DUE.same("behind a row without one", Due.townOf("p1=1-2:3r4^9!8;", "p1=1-2:3r4^9;").piece(1, 6), 0);
    }

    private static void itsArea() {
        DUE.about("Promise 5: piece", "7 its area (-1 without a name)");
        parts("=1-2:3r4;", 7, -1);
        parts("=1-2:3r4^5!6;", 7, -1);
        parts("=1-2:3r4\"a\"#0;", 7, 0);
        parts("=1-2:3r4\"a\"#9;", 7, 9);
        DUE.same("behind a row without one", Due.townOf("p1=1-2:3r4\"a\"#9;", "p1=1-2:3r4;").piece(1, 7), -1);
    }

    private static void thereIsNoSuchPiece() {
        DUE.about("Promise 5: piece", "IllegalArgumentException: there is none such");
        Graph town = Due.someTownAndTape();
        DUE.same("the lowest piece", town.piece(1, 0), 1);
        DUE.same("the highest piece", town.piece(60, 0), 40);
        for (int number : numbersOfNoPiece()) {
            for (int what : new int[] {0, 7}) {
                DUE.unknown(town, "piece(" + number + ", " + what + ")", () -> town.piece(number, what));
            }
        }
        Graph gone = Due.townOf("p1=1-2:3r4;p60=1-2:3r4;", "gp1;gp60;");
        DUE.unknown(gone, "piece 1, which is gone", () -> gone.piece(1, 0));
        DUE.unknown(gone, "piece 60, which is gone", () -> gone.piece(60, 0));
        Due.read(gone, "p60=5-6:7r8;");
        DUE.same("piece 60, which has come again", gone.piece(60, 0), 5);
    }

    private static void noSuchWhatOfAPiece() {
        DUE.about("Promise 5: piece", "IndexOutOfBoundsException: no such what");
        Graph town = Due.someTownAndTape();
        DUE.same("what 0", town.piece(60, 0), 40);
        DUE.same("what 7", town.piece(1, 7), 1);
        for (int what : with(-1, 8)) {
            DUE.outside(town, "piece(1, " + what + ")", () -> town.piece(1, what));
            DUE.outside(town, "piece(60, " + what + ")", () -> town.piece(60, what));
        }
    }

    private static void theUnknownPieceComesBeforeTheWhat() {
        DUE.about("Terms", "the first of these that is so");
        Graph town = Due.someTownAndTape();
        for (int number : new int[] {0, 3, 61}) {
            for (int wrong : new int[] {-1, 8, 24}) {
                DUE.unknown(town, "piece(" + number + ", " + wrong + ")", () -> town.piece(number, wrong));
            }
            for (int wrong : new int[] {-1, 24}) {
                DUE.unknown(town, "speed(" + number + ", " + wrong + ")", () -> town.speed(number, wrong));
            }
            DUE.unknown(town, "name(" + number + ", -1)", () -> town.name(number, -1));
        }
    }

    private static void speed() {
        theFirstOfItsHoursThatHasIt();
        otherwiseItsOwn();
        thereIsNoSuchPieceForASpeed();
        noSuchHour();
    }

    private static void speeds(String row, int[] hours, int... want) {
        Graph town = Due.townOf(row);
        for (int i = 0; i < hours.length; i++) {
            DUE.same("speed at " + hours[i] + " of " + row, town.speed(1, hours[i]), want[i]);
        }
    }

    private static void theFirstOfItsHoursThatHasIt() {
        DUE.about("Promise 6: speed", "that of the first of its hours that has it");
        speeds("p1=1-2:3r50[6-9:1];", new int[] {5, 6, 9, 10}, 50, 1, 1, 50);
        speeds("p1=1-2:3r50[0-0:1][23-23:99];", new int[] {0, 1, 22, 23}, 1, 50, 50, 99);
        speeds("p1=1-2:3r50[0-23:99];", new int[] {0, 1, 12, 22, 23}, 99, 99, 99, 99, 99);
        // Where two have an hour, it is the first in the row's order, whether it begins before or behind.
        speeds("p1=1-2:3r50[6-9:1][8-12:2][0-23:3];", new int[] {5, 6, 8, 9, 10, 12, 13}, 3, 1, 1, 1, 2, 2, 3);
        speeds("p1=1-2:3r50[8-12:2][6-9:1];", new int[] {5, 6, 7, 8, 9, 12, 13}, 50, 1, 1, 2, 2, 2, 50);
        speeds("p1=1-2:3r50[0-23:3][6-9:1][8-12:2];", new int[] {0, 6, 9, 12, 23}, 3, 3, 3, 3, 3);
        speeds("p1=1-2:3r50[5-5:1][5-5:2][4-6:3];", new int[] {3, 4, 5, 6, 7}, 50, 3, 1, 3, 50);
    }

    private static void otherwiseItsOwn() {
        DUE.about("Promise 6: speed", "otherwise its own.");
        speeds("p1=1-2:3r1;", new int[] {0, 1, 22, 23}, 1, 1, 1, 1);
        speeds("p1=1-2:3w99^9!9;", new int[] {0, 1, 22, 23}, 99, 99, 99, 99);
        speeds("p1=1-2:3r50[1-2:1][4-5:2][7-22:3];", new int[] {0, 3, 6, 23}, 50, 50, 50, 50);
        // The hours that the piece of this number had before do not count.
        speeds("p1=1-2:3r50[0-23:1];p1=1-2:3r60;", new int[] {0, 23}, 60, 60);
    }

    private static void thereIsNoSuchPieceForASpeed() {
        DUE.about("Promise 6: speed", "IllegalArgumentException: there is none such");
        Graph town = Due.someTownAndTape();
        DUE.same("the lowest piece", town.speed(1, 0), 50);
        DUE.same("the highest piece", town.speed(60, 0), 99);
        for (int number : numbersOfNoPiece()) {
            DUE.unknown(town, "speed(" + number + ", 0)", () -> town.speed(number, 0));
            DUE.unknown(town, "speed(" + number + ", 23)", () -> town.speed(number, 23));
        }
    }

    private static void noSuchHour() {
        DUE.about("Promise 6: speed", "IndexOutOfBoundsException: no such hour");
        Graph town = Due.someTownAndTape();
        DUE.same("hour 0", town.speed(60, 0), 99);
        DUE.same("hour 23", town.speed(60, 23), 99);
        for (int hour : with(-1, 24)) {
            DUE.outside(town, "speed(1, " + hour + ")", () -> town.speed(1, hour));
            DUE.outside(town, "speed(60, " + hour + ")", () -> town.speed(60, hour));
        }
    }

    private static void name() {
        byteIOfItsName();
        behindTheName();
        thereIsNoSuchPieceForAName();
        iOfANameIsBelow0();
    }

    private static void byteIOfItsName() {
        DUE.about("Promise 7: name", "Byte i of its name;");
        for (String name : new String[] {"a", "z", "az", "zyxwvut", "abcdefgh", "zzzzzzzz"}) {
            for (int number : new int[] {1, 60}) {
                Graph town = Due.townOf("p" + number + "=1-2:3r4\"" + name + "\"#0;");
                for (int i = 0; i < name.length(); i++) {
                    DUE.same("byte " + i + " of " + name, town.name(number, i), (int) name.charAt(i));
                }
            }
        }
    }

    private static void behindTheName() {
        DUE.about("Promise 7: name", "-1 behind it.");
        for (int length = 1; length <= 8; length++) {
            Graph town = Due.townOf("p1=1-2:3r4\"" + "abcdefgh".substring(0, length) + "\"#0;");
            DUE.same("the last of " + length, town.name(1, length - 1), (int) 'a' + length - 1);
            for (int behind : new int[] {length, length + 1, 9, 255, 256, 65536, Integer.MAX_VALUE}) {
                DUE.same("byte " + behind + " of " + length, town.name(1, behind), -1);
            }
        }
        Graph unnamed = Due.townOf("p1=1-2:3r4\"ab\"#0;", "p1=1-2:3r4;");
        for (int i : new int[] {0, 1, 7, 8, Integer.MAX_VALUE}) {
            DUE.same("byte " + i + " without a name", unnamed.name(1, i), -1);
        }
    }

    private static void thereIsNoSuchPieceForAName() {
        DUE.about("Promise 7: name", "IllegalArgumentException: there is none such");
        Graph town = Due.someTownAndTape();
        DUE.same("the lowest piece", town.name(1, 0), (int) 'a');
        DUE.same("the highest piece, which has no name", town.name(60, 0), -1);
        for (int number : numbersOfNoPiece()) {
            DUE.unknown(town, "name(" + number + ", 0)", () -> town.name(number, 0));
            DUE.unknown(town, "name(" + number + ", 8)", () -> town.name(number, 8));
        }
    }

    private static void iOfANameIsBelow0() {
        DUE.about("Promise 7: name", "IndexOutOfBoundsException: i is below 0");
        Graph town = Due.someTownAndTape();
        DUE.same("i 0", town.name(1, 0), (int) 'a');
        DUE.same("i 0 without a name", town.name(60, 0), -1);
        for (int i : new int[] {-1, -2, -8, -256, Integer.MIN_VALUE + 1, Integer.MIN_VALUE}) {
            DUE.outside(town, "name(1, " + i + ")", () -> town.name(1, i));
            DUE.outside(town, "name(60, " + i + ")", () -> town.name(60, i));
        }
    }

    private static void barred() {
        whetherATurnIsBarred();
        noSuchNodes();
    }

    private static void whetherATurnIsBarred() {
        DUE.about("Promise 8: barred", "Whether a turn is barred.");
        Graph town = Due.townOf("x1-2-40;x40-40-40;x1-1-2;");
        int found = 0;
        for (int a : new int[] {1, 2, 3, 39, 40}) {
            for (int b : new int[] {1, 2, 3, 39, 40}) {
                for (int c : new int[] {1, 2, 3, 39, 40}) {
                    found += town.barred(a, b, c) ? 1 : 0;
                }
            }
        }
        DUE.same("how many of the turns around them are barred", found, 3);
        DUE.same("1-2-40", town.barred(1, 2, 40), true);
        DUE.same("40-2-1, the other way round", town.barred(40, 2, 1), false);
        DUE.same("40-40-40", town.barred(40, 40, 40), true);
        DUE.same("1-1-2", town.barred(1, 1, 2), true);
        town.clear();
        DUE.same("1-2-40 behind clear", town.barred(1, 2, 40), false);
        Graph full = new Graph();
        for (int c = 1; c <= 20; c++) {
            Due.read(full, "x7-7-" + c + ";");
        }
        DUE.same("the first of twenty", full.barred(7, 7, 1), true);
        DUE.same("the last of twenty", full.barred(7, 7, 20), true);
        DUE.same("none of twenty", full.barred(7, 7, 21), false);
    }

    private static void noSuchNodes() {
        DUE.about("Promise 8: barred", "IndexOutOfBoundsException: no such nodes");
        Graph town = Due.someTownAndTape();
        // Nodes of no piece are nodes all the same, as they are in a text.
        DUE.same("nodes 1", town.barred(1, 1, 1), false);
        DUE.same("nodes 40", town.barred(40, 40, 40), true);
        DUE.same("nodes 20", new Graph().barred(20, 20, 20), false);
        for (int node : with(-1, 0, 41)) {
            DUE.outside(town, "barred(" + node + ", 1, 40)", () -> town.barred(node, 1, 40));
            DUE.outside(town, "barred(1, " + node + ", 40)", () -> town.barred(1, node, 40));
            DUE.outside(town, "barred(1, 40, " + node + ")", () -> town.barred(1, 40, node));
            DUE.outside(town, "barred of " + node + " alone", () -> town.barred(node, node, node));
        }
    }

    private static void clear() {
        clearsAllBarredTurns();
        howManyThereWere();
    }

    private static void clearsAllBarredTurns() {
        DUE.about("Promise 9: clear", "Clears all barred turns");
        Graph town = Due.someTownAndTape();
        Graph same = Due.someTownAndTape();
        String latest = Shown.latest(town);
        town.clear();
        DUE.same("turns that are left", town.count(3), 0);
        DUE.same("the first one", town.barred(1, 2, 3), false);
        DUE.same("the last one", town.barred(40, 40, 40), false);
        DUE.same("the latest place, print and check", Shown.latest(town), latest);
        DUE.same("the rest", Due.printed(town), Due.printed(same).replaceAll("x[^;]*;", ""));
        DUE.same("the tape", town.sign(';', 1), 16);
        DUE.same("what it makes", town.read(), 4);
        DUE.same("turns behind the next text", town.count(3), 0);
    }

    private static void howManyThereWere() {
        DUE.about("Promise 9: clear", "how many there were.");
        Graph town = new Graph();
        DUE.same("none", town.clear(), 0);
        Due.read(town, "x1-1-1;x1-1-1;");
        DUE.same("one that came twice", town.clear(), 1);
        DUE.same("none again", town.clear(), 0);
        StringBuilder turns = new StringBuilder();
        for (int node = 1; node <= 20; node++) {
            turns.append("x40-").append(node).append("-1;");
        }
        Due.read(town, turns.toString());
        DUE.same("twenty", town.clear(), 20);
        Due.read(town, turns.toString());
        Due.write(town, "x40-21-1;");
        DUE.readWithoutRoom(town, "one more than twenty");
        DUE.same("twenty, and one that was refused", town.clear(), 20);
        Due.write(town, "x1-1-1;q");
        DUE.wrongRead(town, "one in a wrong text", 7);
        DUE.same("none of a wrong text", town.clear(), 0);
    }

    private static void spot() {
        thePiecesNumberOfABuilding();
        thePiecesNumberOfAStation();
        thereIsNoSuchSpot();
    }

    private static void thePiecesNumberOfABuilding() {
        DUE.about("Promise 10: spot", "The piece's number of a building (station: true).");
        Graph town = Due.townOf("h1@1+5;h30@60+5;s1@2+5;s30@59+5;");
        DUE.same("building 1", town.spot(1, false), 1);
        DUE.same("building 30", town.spot(30, false), 60);
        Due.read(town, "h1@3+5;");
        DUE.same("building 1, which has come again", town.spot(1, false), 3);
    }

    private static void thePiecesNumberOfAStation() {
        DUE.about("Promise 10: spot", "The piece's number of a building (station: true).");
        Graph town = Due.townOf("s1@1+5;s30@60+5;h1@2+5;h30@59+5;");
        DUE.same("station 1", town.spot(1, true), 1);
        DUE.same("station 30", town.spot(30, true), 60);
        Due.read(town, "p1=1-2:3r4;gp1;");
        DUE.same("station 1, whose piece is gone", town.spot(1, true), 1);
    }

    /** Buildings 1 and 30 with stations 2 and 29, or the other way round: no number has both. */
    private static Graph spots(boolean station) {
        String[] signs = {station ? "s" : "h", station ? "h" : "s"};
        Graph town = Due.townOf("p4=1-2:3r4;" + signs[0] + "1@4+5;" + signs[0] + "30@6+7;"
                + signs[1] + "2@8+9;" + signs[1] + "29@9+8;");
        Due.write(town, "h9@9+9");
        return town;
    }

    private static void thereIsNoSuchSpot() {
        DUE.about("Promise 10: spot", "IllegalArgumentException: there is none such");
        for (boolean station : BUILDING_AND_STATION) {
            Graph town = spots(station);
            DUE.same("the lowest one", town.spot(1, station), 4);
            DUE.same("the highest one", town.spot(30, station), 6);
            for (int number : with(-1, 0, 2, 29, 31)) {
                DUE.unknown(town, "spot(" + number + ", " + station + ")", () -> town.spot(number, station));
            }
            Due.read(town, ";gh1;gs1;gh30;gs30;");
            DUE.unknown(town, "the lowest one, which is gone", () -> town.spot(1, station));
            DUE.unknown(town, "the highest one, which is gone", () -> town.spot(30, station));
        }
    }

    private static void along() {
        itsMetres();
        likewiseThereIsNoSuchSpot();
    }

    private static void itsMetres() {
        DUE.about("Promise 11: along", "Its metres.");
        Graph town = Due.townOf("h1@7+0;h30@7+9999;s1@7+9998;s30@7+1;");
        DUE.same("building 1", town.along(1, false), 0);
        DUE.same("building 30", town.along(30, false), 9999);
        DUE.same("station 1", town.along(1, true), 9998);
        DUE.same("station 30", town.along(30, true), 1);
        Due.read(town, "h1@7+10;s1@7+0;");
        DUE.same("building 1, which has come again", town.along(1, false), 10);
        DUE.same("station 1, which has come again", town.along(1, true), 0);
        Due.read(town, "p7=1-2:3r4;");
        DUE.same("beyond the length", town.along(30, false), 9999);
    }

    private static void likewiseThereIsNoSuchSpot() {
        DUE.about("Promise 11: along", "Likewise.");
        for (boolean station : BUILDING_AND_STATION) {
            Graph town = spots(station);
            DUE.same("the lowest one", town.along(1, station), 5);
            DUE.same("the highest one", town.along(30, station), 7);
            for (int number : with(-1, 0, 2, 29, 31)) {
                DUE.unknown(town, "along(" + number + ", " + station + ")", () -> town.along(number, station));
            }
            Due.read(town, ";gh1;gs1;gh30;gs30;");
            DUE.unknown(town, "the lowest one, which is gone", () -> town.along(1, station));
            DUE.unknown(town, "the highest one, which is gone", () -> town.along(30, station));
        }
    }
}
