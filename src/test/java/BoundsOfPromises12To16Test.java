/** Promises 12 to 16: each method has one of their bounds, both sides of it. What a fault is: BoundsOfFaultsTest. */
public final class BoundsOfPromises12To16Test {
    private static final Due DUE = new Due();
    /** Numbers far outside of every range; the lowest byte of some is within one. */
    private static final int[] FAR = {Integer.MIN_VALUE, Integer.MAX_VALUE, Integer.MIN_VALUE + 1, -255, 257, 65537};
    private static final int[] BELOW_0 = {-1, -2, -255, -256, Integer.MIN_VALUE + 1, Integer.MIN_VALUE};

    /** 30 buildings, 30 stations, 59 names, 20 turns, 10 walls, 39 ends, 30 stations that are not reached. */
    private static final int MOST_FAULTS = 30 + 30 + 59 + 20 + 10 + 39 + 30;

    public static void main(String[] args) {
        check();
        fault();
        print();
        at();
        count();
        DUE.finish();
    }

    private static void check() {
        theFaultsThatTheTownHasNow();
        howManyFaults();
        checkChangesNothingElse();
    }

    private static void theFaultsThatTheTownHasNow() {
        DUE.about("Promise 12: check", "Looks for the faults that the town has now");
        Graph town = new Graph();
        DUE.same("faults of an empty town", Due.faults(town), "");
        Due.read(town, "h1@1+0;");
        DUE.same("with a building", Due.faults(town), "1/1 ");
        Due.write(town, "p1=1-2:3r4;");
        DUE.same("with a text that is not yet read", Due.faults(town), "1/1 ");
        town.read();
        DUE.same("with that text read", Due.faults(town), "");
        Due.write(town, "gp1;q");
        DUE.wrongRead(town, "a wrong text", 4);
        DUE.same("behind a wrong text", Due.faults(town), "");
        Due.read(town, "x1-1-1;");
        DUE.same("with a turn", Due.faults(town), "4/1 ");
        town.clear();
        DUE.same("with the turn cleared", Due.faults(town), "");
    }

    private static void howManyFaults() {
        DUE.about("Promise 12: check", "the faults that the town has now: how many.");
        DUE.same("none", new Graph().check(), 0);
        DUE.same("none of a sound town", Due.townOf("p1=1-2:3r4;h1@1+0;s1@1+3;").check(), 0);
        DUE.same("one", Due.townOf("h1@1+0;").check(), 1);
        Graph full = fullOfFaults();
        DUE.same("as many as a town can have", full.check(), MOST_FAULTS);
        DUE.same("the same again", full.check(), MOST_FAULTS);
    }

    private static Graph fullOfFaults() {
        Graph town = new Graph();
        StringBuilder rows = new StringBuilder();
        for (int number = 1; number <= 60; number++) {
            rows.append('p').append(number).append("=1>").append(2 + number % 39).append(":1w1\"a\"#0;");
        }
        for (int number = 1; number <= 30; number++) {
            rows.append('h').append(number).append("@1+2;s").append(number).append("@1+2;");
        }
        for (int node = 1; node <= 10; node++) {
            rows.append("x39-").append(node).append("-40;x40-").append(node).append("-39;");
        }
        String text = rows.toString();
        for (int from = 0; from < text.length();) {
            int to = text.lastIndexOf(';', from + 399) + 1;
            Due.read(town, text.substring(from, to));
            from = to;
        }
        return town;
    }

    private static void checkChangesNothingElse() {
        DUE.about("Promise 12: check", "Looks for the faults");
        Graph town = Due.someTownAndTape();
        String before = Shown.town(town) + Shown.tape(town) + town.place() + Due.latestPrint(town.copy());
        town.check();
        DUE.same("all but the faults", Shown.town(town) + Shown.tape(town) + town.place()
                + Due.latestPrint(town.copy()), before);
    }

    private static void fault() {
        ofTheLatestCheck();
        noFaultsBeforeTheFirstCheck();
        itsKindAndItsNumber();
        thereIsNoSuchFault();
        noSuchWhatOfAFault();
        theUnknownFaultComesBeforeTheWhat();
    }

    private static void ofTheLatestCheck() {
        DUE.about("Promise 13: fault", "Of fault i of the latest check()");
        Graph town = Due.townOf("h7@1+0;h8@1+0;");
        town.check();
        Due.read(town, "gh7;gh8;s9@1+0;");
        town.print();
        town.clear();
        DUE.same("the number at that time", town.fault(0, 1), 7);
        DUE.same("the last number at that time", town.fault(1, 1), 8);
        Due.write(town, "q");
        DUE.wrongRead(town, "a wrong text", 0);
        DUE.same("the kind behind a wrong text", town.fault(1, 0), 1);
        DUE.same("the next check", town.check(), 1);
        DUE.same("its kind", town.fault(0, 0), 2);
        DUE.same("its number", town.fault(0, 1), 9);
        DUE.unknown(town, "a fault of the former check", () -> town.fault(1, 0));
        Due.read(town, "gs9;");
        DUE.same("a check of a sound town", town.check(), 0);
        DUE.unknown(town, "fault 0 of a sound town", () -> town.fault(0, 0));
    }

    private static void noFaultsBeforeTheFirstCheck() {
        DUE.about("Promise 13: fault", "(0 faults before the first one)");
        Graph town = Due.townOf("h7@1+0;");
        for (int i : new int[] {-1, 0, 1}) {
            DUE.unknown(town, "fault(" + i + ", 0) before the first check", () -> town.fault(i, 0));
            DUE.unknown(town, "fault(" + i + ", 1) before the first check", () -> town.fault(i, 1));
            DUE.unknown(town, "fault(" + i + ", 2) before the first check", () -> town.fault(i, 2));
        }
        town.check();
        DUE.same("behind the first check", town.fault(0, 1), 7);
    }

    private static void itsKindAndItsNumber() {
        DUE.about("Promise 13: fault", "what 0 its kind, 1 its number.");
        Graph town = Due.townOf("s9@8+6;p8=1>2:5w5\"a\"#1;p7=1>2:5w5\"a\"#1;x1-3-2;x2-3-1;h30@9+0;");
        int[] kinds = {1, 2, 3, 4, 4, 5, 6, 7};
        int[] numbers = {30, 9, 8, 3, 3, 3, 2, 9};
        DUE.same("check", town.check(), kinds.length);
        for (int i = 0; i < kinds.length; i++) {
            DUE.same("the kind of fault " + i, town.fault(i, 0), kinds[i]);
            DUE.same("the number of fault " + i, town.fault(i, 1), numbers[i]);
        }
    }

    private static void thereIsNoSuchFault() {
        DUE.about("Promise 13: fault", "IllegalArgumentException: there is none such");
        Graph town = Due.townOf("h1@1+0;h30@1+0;");
        DUE.same("check", town.check(), 2);
        DUE.same("the first one", town.fault(0, 1), 1);
        DUE.same("the last one", town.fault(1, 1), 30);
        for (int i : new int[] {-1, 2, 3, 249, 250, 251}) {
            DUE.unknown(town, "fault(" + i + ", 0)", () -> town.fault(i, 0));
            DUE.unknown(town, "fault(" + i + ", 1)", () -> town.fault(i, 1));
        }
        for (int i : FAR) {
            DUE.unknown(town, "fault(" + i + ", 0)", () -> town.fault(i, 0));
        }
        Graph full = fullOfFaults();
        full.check();
        DUE.same("the kind of the last of the most", full.fault(MOST_FAULTS - 1, 0), 7);
        DUE.same("the number of the last of the most", full.fault(MOST_FAULTS - 1, 1), 30);
        DUE.unknown(full, "the one behind the most", () -> full.fault(MOST_FAULTS, 0));
    }

    private static void noSuchWhatOfAFault() {
        DUE.about("Promise 13: fault", "IndexOutOfBoundsException: no such what");
        Graph town = Due.someTownAndTape();
        DUE.same("check", town.check() > 1, true);
        DUE.same("what 0", town.fault(0, 0), 4);
        DUE.same("what 1", town.fault(0, 1), 40);
        for (int what : new int[] {-1, 2, 3}) {
            DUE.outside(town, "fault(0, " + what + ")", () -> town.fault(0, what));
            DUE.outside(town, "fault(1, " + what + ")", () -> town.fault(1, what));
        }
        for (int what : FAR) {
            DUE.outside(town, "fault(0, " + what + ")", () -> town.fault(0, what));
        }
    }

    private static void theUnknownFaultComesBeforeTheWhat() {
        DUE.about("Terms", "the first of these that is so");
        Graph town = Due.townOf("h1@1+0;");
        town.check();
        for (int what : new int[] {-1, 2}) {
            DUE.outside(town, "fault(0, " + what + ")", () -> town.fault(0, what));
            DUE.unknown(town, "fault(-1, " + what + ")", () -> town.fault(-1, what));
            DUE.unknown(town, "fault(1, " + what + ")", () -> town.fault(1, what));
        }
    }

    private static void print() {
        withoutBlanks();
        allByNumbers();
        turnsInTheOrderInWhichTheyCame();
        howManyBytes();
        printedTextMakesTheSameTown();
        printChangesNothingElse();
    }

    private static void withoutBlanks() {
        DUE.about("Promise 14: print", "Prints the town as a text without blanks");
        DUE.rightAs("  p 1 = 2 > 3 : 4 r 5 [ 6 - 7 : 8 ] ^ 9 ! 10 \"ab\" # 1 ;  h 1 @ 2 + 3 ; s 1 @ 2 + 3 ; x 1 - 2 - 3 ; ",
                "p1=2>3:4r5[6-7:8]^9!10\"ab\"#1;h1@2+3;s1@2+3;x1-2-3;");
        DUE.rightAs(" ", "");
    }

    private static void allByNumbers() {
        DUE.about("Promise 14: print", "all pieces, buildings, stations by numbers");
        DUE.rightAs("s30@1+1;s2@1+1;s10@1+1;s1@1+1;", "s1@1+1;s2@1+1;s10@1+1;s30@1+1;");
        DUE.rightAs("h30@1+1;h2@1+1;h10@1+1;h1@1+1;", "h1@1+1;h2@1+1;h10@1+1;h30@1+1;");
        DUE.rightAs("p60=1-2:3r4;p2=1-2:3r4;p10=1-2:3r4;p1=1-2:3r4;",
                "p1=1-2:3r4;p2=1-2:3r4;p10=1-2:3r4;p60=1-2:3r4;");
        DUE.rightAs("x1-1-1;s1@1+1;h30@1+1;p60=1-2:3r4;", "p60=1-2:3r4;h30@1+1;s1@1+1;x1-1-1;");
        for (int i = 0; i < 4; i++) {
            DUE.right(new String[] {"p60=1-2:3r4;", "h30@1+1;", "s30@1+1;", "x40-40-40;"}[i]);
        }
    }

    private static void turnsInTheOrderInWhichTheyCame() {
        DUE.about("Promise 14: print", "barred turns in the order in which they came");
        DUE.right("x3-3-3;x40-1-1;x1-40-40;x2-2-2;");
        Graph town = Due.townOf("x3-3-3;x2-2-2;", "x1-1-1;x3-3-3;");
        DUE.same("one that came again keeps its place", Due.printed(town), "x3-3-3;x2-2-2;x1-1-1;");
        town.clear();
        Due.read(town, "x1-1-1;x3-3-3;");
        DUE.same("behind clear they come anew", Due.printed(town), "x1-1-1;x3-3-3;");
        StringBuilder twenty = new StringBuilder();
        for (int node = 40; node > 20; node--) {
            twenty.append("x").append(node).append("-1-1;");
        }
        DUE.right(twenty.toString());
    }

    private static void howManyBytes() {
        DUE.about("Promise 14: print", "in the order in which they came: how many bytes.");
        Graph town = new Graph();
        DUE.same("an empty town", town.print(), 0);
        for (String text : new String[] {"x1-1-1;", "h1@1+0;", "s30@60+9999;", "p1=1-2:3r4;",
            "p60=40-39:9999r99[10-23:99][11-22:98][12-21:97]^99!98\"zzzzzzzz\"#9;"}) {
            DUE.same("print of " + text, Due.townOf(text).print(), text.length());
        }
        String full = "p1=1-2:3r4;".repeat(36);
        DUE.same("a row that came 36 times", Due.townOf(full).print(), full.length() / 36);
        town = new Graph();
        int bytes = 0;
        for (int number = 1; number <= 60; number++) {
            String row = "p" + number + "=1-2:3r4;";
            Due.read(town, row);
            bytes += row.length();
            DUE.same("print up to " + number, town.print(), bytes);
        }
    }

    private static void printedTextMakesTheSameTown() {
        DUE.about("Promise 14: print", "Prints the town as a text");
        Graph town = Due.someTown();
        String text = Due.printed(town);
        Graph same = Due.townOf(text);
        DUE.same("the town that is read from it", Shown.town(same), Shown.town(town));
        DUE.same("the town that reads its own", Shown.town(copyThatReads(town, text)), Shown.town(town));
    }

    private static Graph copyThatReads(Graph town, String text) {
        Graph copy = town.copy();
        Due.read(copy, text);
        return copy;
    }

    private static void printChangesNothingElse() {
        DUE.about("Promise 14: print", "Prints the town");
        Graph town = Due.someTownAndTape();
        town.print();
        String before = Shown.all(town);
        town.print();
        DUE.same("all behind a second print", Shown.all(town), before);
    }

    private static void at() {
        byteIOfTheLatestPrint();
        behindThePrint();
        withoutAPrint();
        iOfAPrintIsBelow0();
    }

    private static void byteIOfTheLatestPrint() {
        DUE.about("Promise 15: at", "Byte i of the latest print;");
        Graph town = Due.townOf("h1@2+3;");
        town.print();
        Due.read(town, "gh1;s30@60+9999;");
        town.check();
        town.clear();
        DUE.same("the print at that time", Due.latestPrint(town), "h1@2+3;");
        Due.write(town, "q");
        DUE.wrongRead(town, "a wrong text", 0);
        DUE.same("its first byte", town.at(0), (int) 'h');
        DUE.same("its last byte", town.at(6), (int) ';');
        town.print();
        DUE.same("the next print", Due.latestPrint(town), "s30@60+9999;");
    }

    private static void behindThePrint() {
        DUE.about("Promise 15: at", "-1 behind it");
        Graph town = Due.townOf("h1@2+34;h2@2+34;");
        int length = town.print();
        DUE.same("the last byte", town.at(length - 1), (int) ';');
        for (int i : new int[] {length, length + 1, 4879, 4880, 4881, 65536, Integer.MAX_VALUE}) {
            DUE.same("byte " + i, town.at(i), -1);
        }
        Due.read(town, "gh1;");
        DUE.same("a shorter print", town.print(), length / 2);
        DUE.same("its last byte", town.at(length / 2 - 1), (int) ';');
        DUE.same("behind it, where the former one had a byte", town.at(length / 2), -1);
        Due.read(town, "gh2;");
        DUE.same("an empty print", town.print(), 0);
        DUE.same("behind it", town.at(0), -1);
    }

    private static void withoutAPrint() {
        DUE.about("Promise 15: at", "(and without one)");
        for (Graph town : new Graph[] {new Graph(), Due.townOf("h1@2+3;")}) {
            for (int i : new int[] {0, 1, 6, 7, Integer.MAX_VALUE}) {
                DUE.same("byte " + i + " without a print", town.at(i), -1);
            }
            for (int i : BELOW_0) {
                DUE.outside(town, "at(" + i + ") without a print", () -> town.at(i));
            }
        }
    }

    private static void iOfAPrintIsBelow0() {
        DUE.about("Promise 15: at", "IndexOutOfBoundsException: i is below 0");
        Graph town = Due.someTownAndTape();
        town.print();
        DUE.same("byte 0", town.at(0), (int) 'p');
        for (int i : BELOW_0) {
            DUE.outside(town, "at(" + i + ")", () -> town.at(i));
        }
    }

    private static void count() {
        howManyPieces();
        howManyBuildings();
        howManyStations();
        howManyBarredTurns();
        howManyNodesOfPieces();
        noSuchWhatOfACount();
    }

    private static void counted(Graph town, int what, int want) {
        DUE.same("count(" + what + ")", town.count(what), want);
    }

    private static void howManyPieces() {
        DUE.about("Promise 16: count", "How many 0 pieces");
        Graph town = Due.townOf("h1@1+1;s1@1+1;x1-1-1;");
        counted(town, 0, 0);
        for (int number = 60; number >= 1; number--) {
            Due.read(town, "p" + number + "=1-2:3r4;");
            counted(town, 0, 61 - number);
        }
        Due.read(town, "p1=2-3:4r5;p60=2-3:4r5;");
        counted(town, 0, 60);
        Due.read(town, "gp1;gp60;gp60;");
        counted(town, 0, 58);
    }

    private static void howManyBuildings() {
        DUE.about("Promise 16: count", "1 buildings");
        spots(1, "h", "s");
    }

    private static void howManyStations() {
        DUE.about("Promise 16: count", "2 stations");
        spots(2, "s", "h");
    }

    private static void spots(int what, String sign, String other) {
        Graph town = Due.townOf("p1=1-2:3r4;" + other + "1@1+1;" + other + "30@1+1;x1-1-1;");
        counted(town, what, 0);
        for (int number = 30; number >= 1; number--) {
            Due.read(town, sign + number + "@60+0;");
            counted(town, what, 31 - number);
        }
        Due.read(town, sign + "1@1+1;" + sign + "30@1+1;");
        counted(town, what, 30);
        Due.read(town, "g" + sign + "1;g" + sign + "30;g" + sign + "30;g" + other + "2;");
        counted(town, what, 28);
        counted(town, 3 - what, 2);
    }

    private static void howManyBarredTurns() {
        DUE.about("Promise 16: count", "3 barred turns");
        Graph town = Due.townOf("p1=1-2:3r4;h1@1+1;s1@1+1;");
        counted(town, 3, 0);
        for (int node = 1; node <= 20; node++) {
            Due.read(town, "x" + node + "-40-" + node + ";x1-40-1;");
            counted(town, 3, node);
        }
        Due.write(town, "x21-40-21;");
        DUE.readWithoutRoom(town, "one more than twenty");
        counted(town, 3, 20);
        town.clear();
        counted(town, 3, 0);
    }

    private static void howManyNodesOfPieces() {
        DUE.about("Promise 16: count", "4 nodes of pieces.");
        counted(Due.townOf("x1-2-3;h1@1+1;"), 4, 0);
        counted(Due.townOf("p1=1-40:3r4;x4-5-6;"), 4, 2);
        counted(Due.townOf("p1=1>40:3r4;p2=40>1:3f4;p3=1-40:3w4;"), 4, 2);
        counted(Due.townOf("p1=1-2:3r4;p60=2-3:3r4;"), 4, 3);
        counted(Due.townOf("p1=1-2:3r4;p60=2-3:3r4;gp60;"), 4, 2);
        counted(Due.townOf("p1=1-2:3r4;p1=2-3:3r4;"), 4, 2);
        counted(Due.townOf("p1=1-2:3r4;gp1;"), 4, 0);
        Graph town = new Graph();
        for (int node = 1; node < 40; node++) {
            Due.read(town, "p" + node + "=" + node + "-" + (node + 1) + ":3r4;");
            counted(town, 4, node + 1);
        }
    }

    private static void noSuchWhatOfACount() {
        DUE.about("Promise 16: count", "IndexOutOfBoundsException: no such what");
        Graph town = Due.someTownAndTape();
        counted(town, 0, 3);
        counted(town, 4, 5);
        for (int what : new int[] {-1, 5, 6}) {
            DUE.outside(town, "count(" + what + ")", () -> town.count(what));
        }
        for (int what : FAR) {
            DUE.outside(town, "count(" + what + ")", () -> town.count(what));
        }
    }
}
