/** Promises 12 and 13: check, fault. */
public final class FaultsTest {
    private static final Due DUE = new Due();

    public static void main(String[] args) {
        lostSpots();
        sameNames();
        idleTurns();
        walls();
        ends();
        unreachedStations();
        order();
        most();
        faultsOfTheLatestCheck();
        DUE.finish();
    }

    private static void due(String text, String want) {
        DUE.same("faults of " + text, Due.faults(Due.townOf(text)), want);
    }

    private static void lostSpots() {
        due("p1=1-2:10r9;h1@1+0;h2@1+10;h3@1+11;h4@2+0;h30@60+0;", "1/3 1/4 1/30 ");
        due("p1=1-2:10r9;s1@1+0;s2@1+10;s3@1+11;s4@2+0;s30@60+0;", "2/3 2/4 2/30 ");
        due("h1@1+0;s1@1+0;", "1/1 2/1 ");
        due("p1=1-2:9r9;h1@1+9;gp1;", "1/1 ");
        due("p1=1-2:9r9;h1@1+9;p1=1-2:8r9;", "1/1 ");
    }

    private static void sameNames() {
        due("p1=1-2:9r9\"a\"#0;p2=1-2:9r9\"a\"#0;p3=1-2:9r9\"a\"#0;", "3/2 3/3 ");
        due("p1=1-2:9r9\"a\"#0;p2=1-2:9r9\"a\"#1;", "");
        due("p1=1-2:9r9\"a\"#0;p2=1-2:9r9\"aa\"#0;p3=1-2:9r9\"b\"#0;", "");
        due("p1=1-2:9r9\"abcdefgh\"#0;p2=1-2:9r9\"bbcdefgh\"#0;p3=1-2:9r9\"bcdefgh\"#0;", "");
        due("p60=1-2:9r9\"abcdefgh\"#9;p2=3-4:9w9\"abcdefgh\"#9;", "3/60 ");
        due("p1=1-2:9r9;p2=1-2:9r9;", "");
        due("p1=1-2:9r9\"a\"#0;p2=1-2:9r9\"b\"#0;p3=1-2:9r9\"b\"#0;gp1;", "3/3 ");
    }

    private static void idleTurns() {
        due("p1=1-2:9r9;p2=2-3:9w9;x1-2-3;x3-2-1;x1-2-1;", "5/2 ");
        due("p1=1>2:9r9;p2=2-3:9f9;x1-2-3;", "");
        due("p1=1>2:9r9;p2=2-3:9f9;x3-2-1;", "4/2 ");
        due("p1=2>1:9r9;p2=2-3:9f9;x1-2-3;", "4/2 6/1 ");
        due("p1=1-2:9r9;x1-2-3;", "4/2 ");
        due("p59=1-2:9r9;p60=2-3:9r9;x1-2-3;", "");
        due("p1=2-3:9r9;x1-2-3;", "4/2 ");
        due("p1=1-2:9r9;p2=2-3:9r9;x2-1-3;x40-39-38;x1-1-1;x5-39-6;", "4/1 4/1 4/39 4/39 ");
    }

    private static void walls() {
        due("p1=1-2:9r9;p2=2-3:9r9;p3=2-4:9r9;x1-2-3;x3-2-1;x4-2-1;x1-2-4;", "5/2 ");
        due("p1=1-2:9r9;x1-2-1;", "");
        due("p1=1-2:9r9;p2=2-3:9r9;x1-2-3;", "");
        due("p1=1-2:9r9;p2=2-3:9r9;p3=1-3:9r9;x1-2-3;x3-1-2;x2-1-3;x1-3-2;", "5/1 ");
        due("x2-40-1;x1-40-2;", "4/40 4/40 5/40 ");
    }

    private static void ends() {
        due("p1=1>2:9r9;", "6/2 ");
        due("p60=1>2:9r9;", "6/2 ");
        due("p1=1>2:9r9;p60=2-1:9r9;", "");
        due("p1=1>2:9f9;p2=3>40:9w9;", "6/2 6/40 ");
        due("p1=1>2:9r9;p2=2>1:9w9;", "");
        due("p1=1>2:9r9;p2=2-3:9f9;", "");
        due("p1=1>2:9r9;p2=3>2:9r9;", "6/2 ");
    }

    private static void unreachedStations() {
        due("p1=1-2:9r9;s1@1+0;s2@1+9;", "");
        due("p1=1-2:9r9;p2=3-4:9r9;s1@1+0;s2@2+0;", "7/2 ");
        due("p1=1-2:9r9;p2=3-4:9r9;p3=2-3:9b9;s1@1+0;s2@2+0;", "");
        due("p1=1-2:9r9;p2=3-4:9r9;p3=2-3:9f9;s1@1+0;s2@2+0;", "7/2 ");
        due("p1=1-2:9r9;p2=3-4:9r9;p3=2-3:9w9;s1@1+0;s2@2+0;", "7/2 ");
        due("p1=1-2:9r9;p2=3-4:9r9;p3=2>3:9t9;s1@1+0;s2@2+0;", "");
        due("p1=1-2:9r9;p2=3-4:9r9;p3=3>2:9t9;s1@1+0;s2@2+0;", "7/2 ");
        // From either end of the lowest one's piece, though it may not be gone that way itself.
        due("p1=2>1:9r9;p2=2-3:9r9;p3=3-4:9r9;p4=1-9:9r9;s1@1+0;s2@3+0;", "");
        due("p1=1>2:9r9;p2=3>2:9r9;s1@1+0;s2@2+0;", "6/2 ");
        // The lowest one's piece may be of any kind, but then the station itself is not reached.
        due("p1=1-2:9w9;p2=2-3:9r9;s1@1+0;s2@2+0;", "7/1 ");
        due("p1=1-2:9f9;p2=1-3:9r9;p3=2-4:9t9;s3@1+0;s4@2+0;s5@3+0;", "7/3 ");
        due("p1=1-2:9w9;s1@1+0;s2@1+0;", "7/1 7/2 ");
        due("p1=1-2:9r9;p2=2-3:9w9;s1@1+0;s2@2+0;", "7/2 ");
        // A station whose piece is not there is neither the lowest one nor unreached.
        due("p1=1-2:9r9;p2=3-4:9r9;s1@9+0;s2@2+0;s3@1+0;", "2/1 7/3 ");
        due("p1=1-2:9r9;p2=3-4:9r9;s1@1+10;s2@2+0;", "2/1 7/2 ");
        due("s1@9+0;s2@8+0;", "2/1 2/2 ");
        // Barred turns do not matter, nor do the numbers of the pieces on the way.
        due("p9=1-2:9r9;p8=2-3:9r9;p7=3-4:9r9;p6=4-5:9r9;p5=5-6:9r9;x1-2-3;s1@9+0;s2@5+0;", "");
        due("p1=1-2:9r9;p60=2-3:9r9;p2=3-4:9r9;s1@1+0;s30@2+0;", "");
        StringBuilder chain = new StringBuilder();
        for (int i = 1; i <= 25; i++) {
            chain.append("p").append(60 - i).append("=").append(i).append(">").append(i + 1).append(":9r9;");
        }
        Graph town = Due.townOf(chain.toString(), "s1@59+0;s2@35+0;");
        DUE.same("faults of a chain", Due.faults(town), "6/26 ");
        Due.read(town, "s1@35+0;s2@59+0;");
        DUE.same("faults of a chain backwards", Due.faults(town), "6/26 7/2 ");
    }

    private static void order() {
        due("x9-8-9;x9-7-8;x8-7-9;p9=2>1:9r9\"q\"#1;p8=4>3:9r9\"q\"#1;s9@8+10;s8@9+0;h3@1+1;h2@9+10;",
                "1/2 1/3 2/9 3/9 4/7 4/7 4/8 5/7 6/1 6/3 7/9 ");
    }

    /** As many of each kind as a town can hold together. */
    private static void most() {
        Graph town = new Graph();
        StringBuilder want = new StringBuilder();
        for (int number = 1; number <= 60; number++) {
            Due.read(town, "p" + number + "=1>" + (2 + number % 39) + ":1w1\"a\"#0;");
        }
        for (int number = 1; number <= 30; number++) {
            Due.read(town, "h" + number + "@1+2;s" + number + "@1+2;");
        }
        for (int i = 1; i <= 10; i++) {
            Due.read(town, "x39-" + i + "-40;x40-" + i + "-39;");
        }
        append(want, 1, 1, 30, 1);
        append(want, 2, 1, 30, 1);
        append(want, 3, 2, 60, 1);
        append(want, 4, 1, 10, 2);
        append(want, 5, 1, 10, 1);
        append(want, 6, 2, 40, 1);
        append(want, 7, 1, 30, 1);
        DUE.same("faults of a full town", Due.faults(town), want.toString());
    }

    private static void append(StringBuilder want, int kind, int from, int to, int times) {
        for (int number = from; number <= to; number++) {
            want.append((kind + "/" + number + " ").repeat(times));
        }
    }

    private static void faultsOfTheLatestCheck() {
        Graph town = Due.townOf("h7@1+0;");
        DUE.unknown(town, "fault(0, 0) before the first check", () -> town.fault(0, 0));
        DUE.unknown(town, "fault(0, 2) before the first check", () -> town.fault(0, 2));
        DUE.same("check", town.check(), 1);
        Due.read(town, "gh7;h8@1+0;h9@1+0;");
        DUE.same("the kind that was", town.fault(0, 0), 1);
        DUE.same("the number that was", town.fault(0, 1), 7);
        for (int i : new int[] {1, -1, Integer.MIN_VALUE, Integer.MAX_VALUE}) {
            DUE.unknown(town, "fault(" + i + ", 0)", () -> town.fault(i, 0));
            DUE.unknown(town, "fault(" + i + ", 2)", () -> town.fault(i, 2));
        }
        for (int what : new int[] {2, -1, Integer.MIN_VALUE, Integer.MAX_VALUE}) {
            DUE.outside(town, "fault(0, " + what + ")", () -> town.fault(0, what));
        }
        DUE.same("check again", town.check(), 2);
        DUE.same("its second", town.fault(1, 1), 9);
        Due.read(town, "gh8;gh9;");
        DUE.same("check of a sound town", town.check(), 0);
        DUE.unknown(town, "no fault is left", () -> town.fault(0, 0));
        Due.read(town, "x1-2-3;");
        town.check();
        town.clear();
        DUE.same("clear leaves the latest check alone", town.fault(0, 0), 4);
    }
}
