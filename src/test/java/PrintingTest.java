/** Promises 14 and 15: print, at. */
public final class PrintingTest {
    private static final Due DUE = new Due();

    public static void main(String[] args) {
        order();
        everyPart();
        longestPieces();
        fullTown();
        at();
        DUE.finish();
    }

    private static void order() {
        DUE.rightAs("x9-8-7;s2@1+1;h2@1+1;p2=3-4:5r6;x1-2-3;s1@1+1;x9-8-7;h1@1+1;p1=1>2:3b4;",
                "p1=1>2:3b4;p2=3-4:5r6;h1@1+1;h2@1+1;s1@1+1;s2@1+1;x9-8-7;x1-2-3;");
        Graph town = Due.townOf("x3-3-3;x2-2-2;", "x1-1-1;x2-2-2;x3-3-3;");
        DUE.same("turns as they came", Due.printed(town), "x3-3-3;x2-2-2;x1-1-1;");
        town.clear();
        Due.read(town, "x2-2-2;x3-3-3;");
        DUE.same("turns behind clear", Due.printed(town), "x2-2-2;x3-3-3;");
    }

    private static void same(String text) {
        DUE.rightAs(text, text);
    }

    private static void everyPart() {
        same("");
        same("p1=1-2:1r1;");
        same("p10=10>20:10b10;");
        same("p1=1-2:100t90;p2=1-2:1000f9;p3=1-2:1001w9;p4=1-2:9090r9;p5=1-2:110r9;");
        same("p1=1-2:1r1[0-0:1];p2=1-2:1r1[9-10:20][0-23:9];p3=1-2:1r1[1-2:3][1-2:3][1-2:3];");
        same("p1=1-2:1r1^1;p2=1-2:1r1!1;p3=1-2:1r1^10!99;");
        same("p1=1-2:1r1\"a\"#0;p2=1-2:1r1[3-4:5]\"az\"#9;p3=1-2:1r1^3\"b\"#1;p4=1-2:1r1!3\"abcdefgh\"#5;");
        same("h1@1+0;h10@10+10;h30@60+9999;s1@60+100;s30@1+1000;x1-1-1;x40-30-20;");
    }

    /** 60 of the longest pieces are all that 512 calls can write: ten texts of 51 calls, print, at. */
    private static void longestPieces() {
        Graph town = new Graph();
        StringBuilder want = new StringBuilder();
        for (int from = 1; from <= 60; from += 6) {
            StringBuilder text = new StringBuilder();
            for (int number = from; number < from + 6; number++) {
                text.append("p").append(number).append("=40-39:9999r99[10-23:99][11-22:98][12-21:97]^99!98");
                text.append("\"zzzzzzzz\"#9;");
            }
            Due.read(town, text.toString());
            want.append(text);
        }
        DUE.same("print of the longest pieces", Due.printed(town), want.toString());
        DUE.same("behind it", town.at(want.length()), -1);
    }

    private static void fullTown() {
        Graph town = new Graph();
        StringBuilder want = new StringBuilder();
        for (int number = 1; number <= 60; number++) {
            String row = "p" + number + "=40-39:9999r99;";
            Due.read(town, row);
            want.append(row);
        }
        want.append(readSpots(town, "h")).append(readSpots(town, "s"));
        StringBuilder turns = new StringBuilder();
        for (int node = 11; node <= 30; node++) {
            turns.append("x").append(node).append("-40-40;");
        }
        Due.read(town, turns.toString());
        DUE.same("print of a full town", Due.printed(town), want.append(turns).toString());
        DUE.same("behind it", town.at(want.length()), -1);
    }

    private static String readSpots(Graph town, String sign) {
        StringBuilder rows = new StringBuilder();
        for (int number = 1; number <= 30; number++) {
            rows.append(sign).append(number).append("@60+9999;");
        }
        Due.read(town, rows.toString());
        return rows.toString();
    }

    private static void at() {
        Graph town = Due.townOf("h1@2+3;");
        DUE.same("at(0) without a print", town.at(0), -1);
        DUE.same("print", town.print(), 7);
        Due.read(town, "h1@4+56;gh2;");
        DUE.same("the latest print, not the town", town.at(3), (int) '2');
        DUE.same("its last byte", town.at(6), (int) ';');
        DUE.same("behind it", town.at(7), -1);
        DUE.same("far behind it", town.at(Integer.MAX_VALUE), -1);
        DUE.outside(town, "at(-1)", () -> town.at(-1));
        DUE.outside(town, "at(lowest)", () -> town.at(Integer.MIN_VALUE));
        DUE.same("print again", town.print(), 8);
        DUE.same("the new one", town.at(3), (int) '4');
        Due.read(town, "gh1;");
        DUE.same("print of an empty town", town.print(), 0);
        DUE.same("nothing of the former print", town.at(0), -1);
    }
}
