/** The document's Terms, as far as they tell of faults: each method has one of their bounds, both sides of it. */
public final class BoundsOfFaultsTest {
    private static final Due DUE = new Due();
    /** Pieces that make all turns over node 2 from and to 1, 3 and 4, so that walls alone are faults. */
    private static final String STAR = "p1=1-2:9r9;p2=2-3:9r9;p3=2-4:9r9;";

    public static void main(String[] args) {
        byKindsThenByNumbers();
        spots();
        names();
        turns();
        walls();
        ends();
        stations();
        DUE.finish();
    }

    private static void about(String words) {
        DUE.about("Terms", words);
    }

    private static void due(String text, String want) {
        DUE.same("the faults of " + text, Due.faults(Due.townOf(text)), want);
    }

    private static void byKindsThenByNumbers() {
        about("FAULTS, by kinds, then by numbers");
        due("", "");
        due("h30@1+0;h1@1+0;h2@1+0;", "1/1 1/2 1/30 ");
        due("s30@1+0;s1@1+0;h2@1+0;", "1/2 2/1 2/30 ");
        due("x2-40-2;x2-1-2;x2-39-2;", "4/1 4/39 4/40 ");
        due("x1-40-2;x2-40-1;x1-3-2;x2-3-1;", "4/3 4/3 4/40 4/40 5/3 5/40 ");
        due("p1=1>40:9r9;p2=1>2:9r9;p3=1>39:9r9;", "6/2 6/39 6/40 ");
        due("p60=1-2:9f9\"a\"#1;p59=1-2:9f9\"a\"#1;p1=1-2:9f9\"a\"#1;s30@1+0;s1@60+0;", "3/59 3/60 7/1 7/30 ");
        due("s9@8+6;p8=1>2:5w5\"a\"#1;p7=1>2:5w5\"a\"#1;x1-3-2;x2-3-1;h9@9+0;", "1/9 2/9 3/8 4/3 4/3 5/3 6/2 7/9 ");
    }

    private static void spots() {
        aBuildingOnAPieceThatIsNotThere();
        aBuildingBeyondItsLength();
        aStationOnAPieceThatIsNotThere();
        aStationBeyondItsLength();
    }

    private static void aBuildingOnAPieceThatIsNotThere() {
        about("1 a building, 2 a station, on a piece that is not there, or beyond its length.");
        for (String piece : new String[] {"1", "60"}) {
            String row = "p" + piece + "=1-2:9r9;";
            due("h1@" + piece + "+0;", "1/1 ");
            due("h30@" + piece + "+0;", "1/30 ");
            due(row + "h1@" + piece + "+0;h30@" + piece + "+0;", "");
            due(row + "h1@" + piece + "+0;gp" + piece + ";", "1/1 ");
            due("h1@" + piece + "+0;" + row, "");
            due(row + "h1@2+0;h2@59+0;", "1/1 1/2 ");
        }
    }

    private static void aBuildingBeyondItsLength() {
        about("1 a building, 2 a station, on a piece that is not there, or beyond its length.");
        due("p1=1-2:1r9;h1@1+0;h2@1+1;h3@1+2;", "1/3 ");
        due("p1=1-2:9998r9;h1@1+9997;h2@1+9998;h3@1+9999;", "1/3 ");
        due("p1=1-2:9999r9;h1@1+9999;", "");
        due("p1=1-2:10r9;p2=1-2:9r9;h1@1+10;h2@2+10;", "1/2 ");
        due("p1=1-2:10r9;h1@1+10;p1=1-2:9r9;", "1/1 ");
    }

    private static void aStationOnAPieceThatIsNotThere() {
        about("1 a building, 2 a station, on a piece that is not there, or beyond its length.");
        for (String piece : new String[] {"1", "60"}) {
            String row = "p" + piece + "=1-2:9r9;";
            due("s1@" + piece + "+0;", "2/1 ");
            due("s30@" + piece + "+0;", "2/30 ");
            due(row + "s1@" + piece + "+0;s30@" + piece + "+0;", "");
            due(row + "s1@" + piece + "+0;gp" + piece + ";", "2/1 ");
            due("s1@" + piece + "+0;" + row, "");
        }
    }

    private static void aStationBeyondItsLength() {
        about("1 a building, 2 a station, on a piece that is not there, or beyond its length.");
        due("p1=1-2:1r9;s1@1+0;s2@1+1;s3@1+2;", "2/3 ");
        due("p1=1-2:9998r9;s1@1+9997;s2@1+9998;s3@1+9999;", "2/3 ");
        due("p1=1-2:9999r9;s1@1+9999;", "");
        due("p1=1-2:10r9;s1@1+10;p1=1-2:9r9;", "2/1 ");
    }

    private static void names() {
        aNameThatOneOfLowerNumberHas();
        inTheSameArea();
    }

    private static String named(int number, String name, int area) {
        return "p" + number + "=1-2:9r9\"" + name + "\"#" + area + ";";
    }

    private static void aNameThatOneOfLowerNumberHas() {
        about("3 A piece whose name another one of lower number has in the same area.");
        due(named(1, "a", 0), "");
        due(named(1, "a", 0) + named(2, "a", 0), "3/2 ");
        due(named(2, "a", 0) + named(1, "a", 0), "3/2 ");
        due(named(59, "a", 0) + named(60, "a", 0), "3/60 ");
        due(named(1, "a", 0) + named(60, "a", 0), "3/60 ");
        // Once for a piece, however many lower ones have its name.
        due(named(1, "a", 0) + named(2, "a", 0) + named(3, "a", 0), "3/2 3/3 ");
        due(named(1, "a", 0) + named(2, "a", 0) + "gp1;", "");
        due(named(1, "a", 0) + named(1, "a", 0), "");
        // Two pieces without a name have no name in common.
        due("p1=1-2:9r9;p2=1-2:9r9;", "");
        due("p1=1-2:9r9;" + named(2, "a", 0), "");
        due(named(1, "a", 0) + "p2=1-2:9r9;", "");
    }

    private static void inTheSameArea() {
        about("3 A piece whose name another one of lower number has in the same area.");
        due(named(1, "a", 0) + named(2, "a", 1), "");
        due(named(1, "a", 8) + named(2, "a", 9), "");
        due(named(1, "a", 9) + named(2, "a", 9), "3/2 ");
        due(named(1, "a", 0) + named(2, "b", 0), "");
        due(named(1, "a", 0) + named(2, "aa", 0) + named(3, "ab", 0) + named(4, "ba", 0), "");
        due(named(1, "abcdefgh", 0) + named(2, "abcdefgh", 0), "3/2 ");
        due(named(1, "abcdefgh", 0) + named(2, "abcdefg", 0) + named(3, "bcdefgh", 0), "");
        due(named(1, "abcdefgh", 0) + named(2, "abcdefgi", 0) + named(3, "bbcdefgh", 0), "");
    }

    private static void turns() {
        aBarredTurnThatNoPiecesMake();
        noneFromTheFirstNodeToTheSecondOne();
        noneFromThereToTheThird();
    }

    private static void aBarredTurnThatNoPiecesMake() {
        about("4 A barred turn (number: the middle node) that no pieces make");
        due("p1=1-2:9r9;p2=2-3:9r9;x1-2-3;", "");
        due("p59=1-2:9f9;p60=2-3:9w9;x1-2-3;", "");
        due("x1-2-3;", "4/2 ");
        due("x2-1-3;x3-40-2;", "4/1 4/40 ");
        due("p1=1-2:9r9;x1-2-1;", "");
        due("p1=1>2:9r9;p2=2-3:9r9;x1-2-1;", "4/2 ");
        // No piece goes from a node to itself.
        due("p1=1-2:9r9;x1-1-2;x1-2-2;x1-1-1;", "4/1 4/1 4/2 ");
        // One fault for each turn, though the number is the same.
        due("x1-2-3;x4-2-3;", "4/2 4/2 ");
        Graph town = Due.townOf("x1-2-3;");
        town.clear();
        DUE.same("the faults behind clear", Due.faults(town), "");
    }

    private static void noneFromTheFirstNodeToTheSecondOne() {
        about("there is none that may be gone from the first node to the second one");
        due("p1=1>2:9r9;p2=2-3:9r9;x1-2-3;", "");
        due("p1=2>1:9r9;p2=2-3:9r9;p3=1-3:9r9;x1-2-3;", "4/2 ");
        due("p2=2-3:9r9;x1-2-3;", "4/2 ");
        due("p1=1-4:9r9;p2=2-3:9r9;p3=4-2:9r9;x1-2-3;", "4/2 ");
    }

    private static void noneFromThereToTheThird() {
        about("or from there to the third.");
        due("p1=1-2:9r9;p2=2>3:9r9;p3=3-1:9r9;x1-2-3;", "");
        due("p1=1-2:9r9;p2=3>2:9r9;x1-2-3;", "4/2 ");
        due("p1=1-2:9r9;x1-2-3;", "4/2 ");
        due("p1=1-2:9r9;p2=1-3:9r9;x1-2-3;", "4/2 ");
    }

    private static void walls() {
        aWallWhenBothAreBarred();
        aAndCDifferent();
        onceForANode();
    }

    private static void aWallWhenBothAreBarred() {
        about("5 A node that is a WALL: some turn a, it, c and c, it, a are barred both");
        due(STAR + "x1-2-3;", "");
        due(STAR + "x1-2-3;x3-2-1;", "5/2 ");
        due(STAR + "x3-2-1;x1-2-3;", "5/2 ");
        due(STAR + "x1-2-3;x3-2-4;x4-2-1;", "");
        due(STAR + "x1-2-3;x3-2-4;x4-2-1;x4-2-3;", "5/2 ");
        // It need not be that pieces make the turns, and over another node they do not count.
        due("x1-40-2;x2-40-1;", "4/40 4/40 5/40 ");
        due("x3-1-2;x2-1-3;", "4/1 4/1 5/1 ");
        due("x1-2-3;x3-4-1;", "4/2 4/4 ");
    }

    private static void aAndCDifferent() {
        about("a and c different");
        due(STAR + "x1-2-1;", "");
        due(STAR + "x1-2-1;x3-2-3;", "");
        due(STAR + "x1-2-1;x1-2-3;x3-2-3;", "");
        due(STAR + "x1-2-1;x1-2-3;x3-2-1;", "5/2 ");
        due("x2-2-1;x1-2-2;", "4/2 4/2 5/2 ");
        due("x2-2-2;", "4/2 ");
    }

    private static void onceForANode() {
        about("(once for a node)");
        due(STAR + "x1-2-3;x3-2-1;x1-2-4;x4-2-1;x3-2-4;x4-2-3;", "5/2 ");
        due(STAR + "p4=1-3:9r9;x1-2-3;x3-2-1;x2-3-1;x1-3-2;", "5/2 5/3 ");
    }

    private static void ends() {
        about("6 A node that ends: a piece may be gone to it, and none from it.");
        due("p1=1-2:9r9;", "");
        due("p1=1>2:9r9;", "6/2 ");
        due("p1=2>1:9r9;", "6/1 ");
        due("p60=39>40:9r9;", "6/40 ");
        due("p1=1>2:9w9;p2=2>1:9f9;", "");
        due("p1=1>2:9r9;p2=2>3:9r9;", "6/3 ");
        due("p1=1>2:9r9;p2=2>3:9r9;p3=3>1:9r9;", "");
        due("p1=1>2:9r9;p2=3>2:9r9;", "6/2 ");
        due("p1=1>2:9r9;p2=2-3:9r9;", "");
        due("p1=1>2:9r9;p60=3-2:9w9;", "");
        due("p1=1>2:9r9;p2=1-2:9r9;gp2;", "6/2 ");
    }

    private static void stations() {
        aStationOnAPieceThatIsThere();
        fromTheLowestSuchStation();
        metresDoNotMatter();
        itsOwnPieceIsForWheels();
        thatOfTheLowestOne();
        fromEitherEndWhateverItsKind();
        toEitherEnd();
        overPiecesForWheels();
        asTheyMayBeGone();
        turnsNotLookedAt();
        asFarAsATownGoes();
    }

    private static void aStationOnAPieceThatIsThere() {
        about("7 A station, on a piece that is there, that is not REACHED");
        due("p1=1-2:9r9;s1@1+0;s2@2+0;", "2/2 ");
        due("p1=1-2:9r9;p2=3-4:9r9;s1@1+0;s2@2+0;", "7/2 ");
        due("p1=1-2:9r9;p60=3-4:9r9;s1@1+0;s30@60+0;", "7/30 ");
        due("p1=1-2:9r9;p2=3-4:9r9;h1@1+0;h2@2+0;", "");
        due("p1=1-2:9r9;p2=3-4:9r9;s1@1+0;s2@2+0;gp2;", "2/2 ");
    }

    private static void fromTheLowestSuchStation() {
        about("from the lowest such station");
        due("p1=1-2:9r9;p2=3-4:9r9;p3=4-5:9r9;s1@1+0;s2@2+0;s3@3+0;", "7/2 7/3 ");
        due("p1=1-2:9r9;p2=3-4:9r9;p3=4-5:9r9;s3@1+0;s1@2+0;s2@3+0;", "7/3 ");
        due("p1=1-2:9r9;p2=3-4:9r9;s1@60+0;s29@1+0;s30@2+0;", "2/1 7/30 ");
        due("p1=1-2:9r9;s30@1+0;", "");
        due("p1=1-2:9r9;p2=3-4:9r9;s1@1+0;s2@2+0;gs1;", "");
    }

    private static void metresDoNotMatter() {
        about("(metres do not matter)");
        due("p1=1-2:9r9;p2=2-3:9r9;s1@1+9;s2@2+0;", "");
        due("p1=1-2:9r9;p2=3-4:9r9;s1@1+9;s2@2+0;", "7/2 ");
        // Nor do they beyond the length: the station is on a piece that is there.
        due("p1=1-2:9r9;p2=3-4:9r9;s1@1+10;s2@2+0;", "2/1 7/2 ");
        due("p1=1-2:9r9;p2=3-4:9r9;s1@1+9;s2@2+10;", "2/2 7/2 ");
        due("p1=1-2:9r9;p2=2-3:9r9;s1@1+10;s2@2+10;", "2/1 2/2 ");
    }

    private static void itsOwnPieceIsForWheels() {
        about("its own piece is for WHEELS (r, b, t)");
        for (String kind : new String[] {"r", "b", "t"}) {
            due("p1=1-2:9r9;p2=2-3:9" + kind + "9;s1@1+0;s2@2+0;", "");
            due("p1=1-2:9" + kind + "9;s1@1+0;", "");
        }
        for (String kind : new String[] {"f", "w"}) {
            due("p1=1-2:9r9;p2=2-3:9" + kind + "9;s1@1+0;s2@2+0;", "7/2 ");
            due("p1=1-2:9" + kind + "9;s1@1+0;", "7/1 ");
        }
    }

    private static void thatOfTheLowestOne() {
        about("and is that of the lowest one");
        due("p1=1-2:9r9;s1@1+0;s2@1+9;s30@1+5;", "");
        due("p1=1>2:9r9;p2=2>1:9r9;s1@1+0;s2@1+9;", "");
        due("p1=1-2:9w9;s1@1+0;s2@1+9;", "7/1 7/2 ");
    }

    private static void fromEitherEndWhateverItsKind() {
        about("or from either end of the piece of that (whatever its kind)");
        for (String kind : new String[] {"r", "b", "t", "f", "w"}) {
            String lowest = "rbt".contains(kind) ? "" : "7/1 ";
            for (String way : new String[] {"1-2", "2-1"}) {
                due("p1=" + way + ":9" + kind + "9;p2=2-3:9r9;p3=3-4:9r9;s1@1+0;s2@3+0;", lowest);
                due("p1=" + way + ":9" + kind + "9;p2=5-3:9r9;p3=3-4:9r9;s1@1+0;s2@3+0;", lowest + "7/2 ");
            }
            // Also from the end to which the lowest one's piece may not be gone.
            due("p1=2>1:9" + kind + "9;p2=1>2:9f9;p3=2-3:9r9;p4=3-4:9r9;s1@1+0;s2@4+0;", lowest);
        }
    }

    private static void toEitherEnd() {
        about("one comes to either end of its piece");
        due("p1=1-2:9r9;p2=2-3:9r9;p3=3-4:9r9;s1@1+0;s2@3+0;", "");
        due("p1=1-2:9r9;p2=2-3:9r9;p3=4-3:9r9;s1@1+0;s2@3+0;", "");
        // Also to the end from which it may not be gone.
        due("p1=1-2:9r9;p2=2-3:9r9;p3=4>3:9r9;s1@1+0;s2@3+0;", "");
        due("p1=1-2:9r9;p2=2-3:9r9;p3=4-5:9r9;s1@1+0;s2@3+0;", "7/2 ");
        // Over no piece at all, when the two have an end in common.
        due("p1=1-2:9r9;p2=2-3:9r9;s1@1+0;s2@2+0;", "");
        due("p1=2-1:9w9;p2=3-1:9r9;s1@1+0;s2@2+0;", "7/1 ");
    }

    private static void overPiecesForWheels() {
        about("over pieces for wheels");
        for (String kind : new String[] {"r", "b", "t", "f", "w"}) {
            String want = "rbt".contains(kind) ? "" : "7/2 ";
            due("p1=1-2:9r9;p2=2-3:9" + kind + "9;p3=3-4:9r9;s1@1+0;s2@3+0;", want);
            due("p1=1-2:9r9;p60=2-3:9" + kind + "9;p3=3-4:9r9;s1@1+0;s2@3+0;", want);
            due("p2=1-2:9r9;p1=2-3:9" + kind + "9;p3=3-4:9r9;s1@2+0;s2@3+0;", want);
            due("p1=1-2:9r9;p2=2-5:9r9;p3=5-3:9" + kind + "9;p4=3-4:9r9;s1@1+0;s2@4+0;", want);
        }
    }

    private static void asTheyMayBeGone() {
        about("as they may be gone");
        due("p1=1-2:9r9;p2=2>3:9r9;p3=3-4:9r9;s1@1+0;s2@3+0;", "");
        due("p1=1-2:9r9;p2=3>2:9r9;p3=3-4:9r9;s1@1+0;s2@3+0;", "7/2 ");
        due("p1=1-2:9r9;p2=3>2:9r9;p3=3-4:9r9;s2@1+0;s1@3+0;", "");
        due("p1=1-2:9r9;p2=2>5:9r9;p3=3>5:9r9;p4=3-4:9r9;p5=5-6:9r9;s1@1+0;s2@4+0;", "7/2 ");
    }

    private static void turnsNotLookedAt() {
        about("turns not looked at");
        String town = "p1=1-2:9r9;p2=2-3:9r9;p3=3-4:9r9;s1@1+0;s2@3+0;";
        due(town, "");
        due(town + "x1-2-3;x2-3-4;", "");
        due(town + "x1-2-3;x3-2-1;x2-3-4;x4-3-2;", "5/2 5/3 ");
    }

    /** Over all 40 nodes, against the order of the numbers and with it. */
    private static void asFarAsATownGoes() {
        about("one comes to either end of its piece over pieces for wheels");
        for (boolean upwards : new boolean[] {false, true}) {
            Graph town = new Graph();
            for (int node = 1; node < 40; node++) {
                int number = upwards ? node : 40 - node;
                Due.read(town, "p" + number + "=" + node + ">" + (node + 1) + ":9r9;");
            }
            int first = upwards ? 1 : 39;
            Due.read(town, "s1@" + first + "+0;s2@" + (40 - first) + "+0;");
            DUE.same("from the first piece to the last", Due.faults(town), "6/40 ");
            Due.read(town, "s2@" + first + "+0;s1@" + (40 - first) + "+0;");
            DUE.same("from the last piece to the first", Due.faults(town), "6/40 7/2 ");
            Due.read(town, "s1@" + first + "+0;s2@" + (40 - first) + "+0;gp20;");
            DUE.same("with a gap", Due.faults(town), "6/20 6/40 7/2 ");
        }
    }
}
