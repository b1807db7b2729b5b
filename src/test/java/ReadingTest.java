/** Promises 1 to 4: a new object, sign, read, place. */
public final class ReadingTest {
    private static final Due DUE = new Due();

    public static void main(String[] args) {
        newObject();
        sign();
        read();
        rowsInOrder();
        twentyTurns();
        place();
        wrongRows();
        wrongNumbers();
        blanks();
        DUE.finish();
    }

    private static void newObject() {
        Graph town = new Graph();
        for (int what = 0; what <= 4; what++) {
            DUE.same("count(" + what + ") of a new town", town.count(what), 0);
        }
        DUE.same("place of a new town", town.place(), -1);
        DUE.same("at(0) of a new town", town.at(0), -1);
        DUE.unknown(town, "fault(0, 0) of a new town", () -> town.fault(0, 0));
        DUE.same("check of a new town", town.check(), 0);
        DUE.same("print of a new town", town.print(), 0);
        DUE.same("clear of a new town", town.clear(), 0);
        DUE.same("read of a new town", town.read(), 0);
        DUE.unknown(town, "piece(1, 0) of a new town", () -> town.piece(1, 0));
        DUE.unknown(town, "spot(1) of a new town", () -> town.spot(1, false));
        DUE.same("the next tape", new Graph().sign('p', 1), 1);
    }

    private static void sign() {
        Graph town = new Graph();
        DUE.outside(town, "sign of 0", () -> town.sign('p', 0));
        DUE.outside(town, "sign of -1", () -> town.sign('p', -1));
        DUE.outside(town, "sign of 9", () -> town.sign('p', 9));
        DUE.outside(town, "sign of the lowest int", () -> town.sign('p', Integer.MIN_VALUE));
        DUE.outside(town, "sign of the highest int", () -> town.sign('p', Integer.MAX_VALUE));
        DUE.same("sign after refusals", town.sign('g', 1), 1);
        DUE.same("two more", town.sign(0x7070_7031L, 2), 3);
        DUE.same("one more", town.sign(0x3b3b_3b3bL, 1), 4);
        DUE.same("read of gp1;", town.read(), 0);
        DUE.same("the tape is used up", town.sign(' ', 1), 1);

        Graph full = new Graph();
        for (int i = 1; i <= 49; i++) {
            DUE.same("sign " + i, full.sign(0x2020_2020_2020_2020L, 8), 8 * i);
        }
        DUE.same("up to 399", full.sign(0x2020_2020_2020_20L, 7), 399);
        DUE.noRoom(full, "to 401", () -> full.sign(0x2020, 2));
        DUE.same("up to 400", full.sign(' ', 1), 400);
        DUE.noRoom(full, "one more than 400", () -> full.sign(' ', 1));
        DUE.outside(full, "the range comes before the room", () -> full.sign(' ', 9));
        DUE.same("400 blanks are right", full.read(), 0);
        DUE.same("room again", full.sign(' ', 1), 1);
    }

    private static void read() {
        Graph town = new Graph();
        DUE.same("one piece", Due.read(town, "p7=1-2:9r9;"), 1);
        DUE.same("two pieces", Due.read(town, "p60=1-2:9r9;h1@1+1;"), 2);
        DUE.same("an empty text", town.read(), 2);
        DUE.same("without pieces", Due.read(town, "s1@1+1;x1-2-3;"), 2);
        DUE.same("one gone", Due.read(town, "gp7;"), 1);
        DUE.same("none such gone", Due.read(town, "gp7;gp1;gh30;gs30;gp60;"), 0);
        DUE.same("what stays", Due.printed(town), "h1@1+1;s1@1+1;x1-2-3;");
    }

    private static void rowsInOrder() {
        Graph town = Due.townOf("p1=1-2:9r9[1-2:3]^4!5\"ab\"#6;p1=3>4:8w7;h2@1+1;h2@3+4;s2@5+6;s2@7+8;");
        DUE.same("the later ones", Due.printed(town), "p1=3>4:8w7;h2@3+4;s2@7+8;");
        Due.read(town, "gp1;p1=5-6:1f1;gp1;gh2;h2@9+9;gs2;s2@1+0;gs2;");
        DUE.same("gone and come again", Due.printed(town), "h2@9+9;");
        DUE.same("gone and come in one text", Due.read(town, "gp2;p2=5-6:1f1;"), 1);
        Due.read(town, "h1@1+1;s1@1+1;gh1;");
        DUE.same("a building gone, not the station", Due.printed(town), "p2=5-6:1f1;h2@9+9;s1@1+1;");
    }

    private static void twentyTurns() {
        StringBuilder twenty = new StringBuilder();
        for (int i = 1; i <= 20; i++) {
            twenty.append('x').append(i).append("-2-3;");
        }
        Graph town = Due.townOf(twenty.toString());
        DUE.same("twenty turns", town.count(3), 20);
        DUE.same("known ones need no room", Due.read(town, "x20-2-3;x1-2-3;p1=1-2:9r9;"), 1);
        Due.write(town, "gp1;p2=1-2:9r9;h1@1+1;x3-2-1;");
        DUE.readWithoutRoom(town, "the 21st turn");
        DUE.same("nothing is changed", Due.printed(town), "p1=1-2:9r9;" + twenty);
        Due.write(town, "x3-2-1;x3-2-2;q");
        DUE.wrongRead(town, "a wrong text with too many turns", 14);
        Due.write(town, "x3-2-1;");
        DUE.readWithoutRoom(town, "the 21st turn behind a wrong text");
        town.clear();
        DUE.same("room after clear", Due.read(town, "x3-2-1;"), 1);
        DUE.same("one turn", town.count(3), 1);

        Graph fresh = new Graph();
        Due.write(fresh, twenty + "x21-2-3;");
        DUE.readWithoutRoom(fresh, "21 in one text");
        DUE.same("none of them", fresh.count(3), 0);
        DUE.same("the same one often", Due.read(fresh, "x1-1-1;".repeat(57)), 0);
        DUE.same("counts once", fresh.count(3), 1);
    }

    private static void place() {
        Graph town = new Graph();
        Due.write(town, "q");
        DUE.same("place before the read", town.place(), -1);
        DUE.wrongRead(town, "q", 0);
        Due.write(town, "gp1;");
        DUE.same("place until the next read", town.place(), 0);
        town.read();
        DUE.same("place of a right text", town.place(), -1);
        DUE.wrongAt(town, "p1=1-2:9r9;h1@1+1;gp", 20);
        Due.write(town, "p1=1-2:9r9;;");
        DUE.wrongRead(town, "two semicolons", 11);
        town.read();
        DUE.same("place of an empty text", town.place(), -1);
        DUE.wrongAt(town, "gp1;".repeat(99) + "gp1 ", 400);
    }

    private static void wrongRows() {
        Graph town = Due.townOf("p1=1-2:3r4;h1@1+1;s1@1+1;x1-2-3;");
        DUE.wrongAt(town, ";", 0);
        DUE.wrongAt(town, "P1", 0);
        DUE.wrongAt(town, "\0", 0);
        DUE.wrongAt(town, "\u00ff", 0);
        DUE.wrongAt(town, "p\u00ff", 1);
        DUE.wrongAt(town, "\n", 0);
        DUE.wrongAt(town, "gp1;\t", 4);
        DUE.wrongAt(town, "gp1;;", 4);
        DUE.wrongAt(town, "gp1", 3);
        DUE.wrongAt(town, "gx1;", 1);
        DUE.wrongAt(town, "gg1;", 1);
        DUE.wrongAt(town, "gp;", 2);
        DUE.wrongAt(town, "p=1", 1);
        DUE.wrongAt(town, "p1:", 2);
        DUE.wrongAt(town, "p1=-", 3);
        DUE.wrongAt(town, "p1=1<2", 4);
        DUE.wrongAt(town, "p1=1->2", 5);
        DUE.wrongAt(town, "p1=1-2;", 6);
        DUE.wrongAt(town, "p1=1-2:r", 7);
        DUE.wrongAt(town, "p1=1-2:5x9;", 8);
        DUE.wrongAt(town, "p1=1-2:5;", 8);
        DUE.wrongAt(town, "p1=1-2:5rb9;", 9);
        DUE.wrongAt(town, "p1=1-2:5r;", 9);
        DUE.wrongAt(town, "p1=1-2:5r9[];", 11);
        DUE.wrongAt(town, "p1=1-2:5r9[1:2];", 12);
        DUE.wrongAt(town, "p1=1-2:5r9[1-2];", 14);
        DUE.wrongAt(town, "p1=1-2:5r9[1-2:3;", 16);
        DUE.wrongAt(town, "p1=1-2:5r9[1-2:3][1-2:3][1-2:3][", 31);
        DUE.wrongAt(town, "p1=1-2:5r9^5[1-2:3];", 12);
        DUE.wrongAt(town, "p1=1-2:5r9^5^5;", 12);
        DUE.wrongAt(town, "p1=1-2:5r9!5^5;", 12);
        DUE.wrongAt(town, "p1=1-2:5r9!5!5;", 12);
        DUE.wrongAt(town, "p1=1-2:5r9^;", 11);
        DUE.wrongAt(town, "p1=1-2:5r9!;", 11);
        DUE.wrongAt(town, "p1=1-2:5r9\"a\"#1^5;", 15);
        DUE.wrongAt(town, "p1=1-2:5r9\"a\"#1\"b\"#2;", 15);
        DUE.wrongAt(town, "p1=1-2:5r9#1;", 10);
        DUE.wrongAt(town, "p1=1-2:5r9\"\"#1;", 11);
        DUE.wrongAt(town, "p1=1-2:5r9\"aB\"#1;", 12);
        DUE.wrongAt(town, "p1=1-2:5r9\"a`\"#1;", 12);
        DUE.wrongAt(town, "p1=1-2:5r9\"a{\"#1;", 12);
        DUE.wrongAt(town, "p1=1-2:5r9\"abcdefghi\"#1;", 19);
        DUE.wrongAt(town, "p1=1-2:5r9\"abcdefgh", 19);
        DUE.wrongAt(town, "p1=1-2:5r9\"a\";", 13);
        DUE.wrongAt(town, "p1=1-2:5r9\"a\"#;", 14);
        DUE.wrongAt(town, "x1-2;", 4);
        DUE.wrongAt(town, "x1>2-3;", 2);
        DUE.wrongAt(town, "x1-2>3;", 4);
        DUE.wrongAt(town, "x1-2-3-4;", 6);
        DUE.wrongAt(town, "h1+1;", 2);
        DUE.wrongAt(town, "h1@1@1;", 4);
        DUE.wrongAt(town, "s1@1+;", 5);
        DUE.wrongAt(town, "s1@1;", 4);
        missing("p12=1>23:456t78[1-23:45][0-0:9][2-3:4]^56!78\"abcdefgh\"#9");
        missing("x1-2-3");
        missing("h1@2+3");
        missing("s30@60+9999");
        missing("gp60");
        missing("gh1");
        missing("gs30");
    }

    /**
     * Every beginning of a right row lacks something: it is wrong at its length, also when the former
     * text had the rest of the row there, and when the tape is full.
     */
    private static void missing(String row) {
        for (int length = 1; length <= row.length(); length++) {
            String beginning = row.substring(0, length);
            Graph town = Due.townOf(row + ";");
            DUE.wrongAt(town, beginning, length);
            DUE.wrongAt(town, " ".repeat(400 - length) + beginning, 400);
        }
        DUE.rightAs(row + ";" + " ".repeat(399 - row.length()), Due.printed(Due.townOf(row + ";")));
        DUE.rightAs(" ".repeat(399 - row.length()) + row + ";", Due.printed(Due.townOf(row + ";")));
    }

    private static void wrongNumbers() {
        Graph town = new Graph();
        numbers(town, "p", 1, 60, "=");
        numbers(town, "p1=", 1, 40, "-");
        numbers(town, "p1=40-", 1, 39, ":");
        numbers(town, "p1=40>", 1, 39, ":");
        numbers(town, "p1=1-2:", 1, 9999, "r");
        numbers(town, "p1=1-2:9r", 1, 99, ";");
        numbers(town, "p1=1-2:9r9[", 0, 23, "-");
        numbers(town, "p1=1-2:9r9[0-", 0, 23, ":");
        numbers(town, "p1=1-2:9r9[7-", 7, 23, ":");
        numbers(town, "p1=1-2:9r9[17-", 17, 23, ":");
        numbers(town, "p1=1-2:9r9[7-8:", 1, 99, "]");
        numbers(town, "p1=1-2:9r9^", 1, 99, ";");
        numbers(town, "p1=1-2:9r9!", 1, 99, ";");
        numbers(town, "p1=1-2:9r9\"a\"#", 0, 9, ";");
        numbers(town, "x", 1, 40, "-");
        numbers(town, "x1-", 1, 40, "-");
        numbers(town, "x1-2-", 1, 40, ";");
        numbers(town, "h", 1, 30, "@");
        numbers(town, "h1@", 1, 60, "+");
        numbers(town, "h1@1+", 0, 9999, ";");
        numbers(town, "s", 1, 30, "@");
        numbers(town, "s1@", 1, 60, "+");
        numbers(town, "s1@1+", 0, 9999, ";");
        numbers(town, "gp", 1, 60, ";");
        numbers(town, "gh", 1, 30, ";");
        numbers(town, "gs", 1, 30, ";");
        DUE.wrongAt(town, "p1=12-12", 7);
        DUE.wrongAt(town, "p1=1-1", 5);
        DUE.wrongAt(town, "p1=1>1:", 5);
        DUE.wrongAt(town, "p1=12-1", 7);
        DUE.wrongAt(town, "p1=1-12", 7);
        DUE.wrongAt(town, "p1=1-2:9r9[9-8", 13);
        DUE.wrongAt(town, "p1=1-2:9r9[12-1", 14);
        DUE.wrongAt(town, "p1=1-2:9r9[12-10:", 15);
        DUE.rightAs("x7-7-7;", "x7-7-7;");
    }

    /** Where a number may be low .. high, with a sign behind it that may follow. */
    private static void numbers(Graph town, String before, int low, int high, String behind) {
        int from = before.length();
        for (int number : new int[] {low, high}) {
            // A right number: the wrong byte is the one behind what follows it.
            String text = before + number + behind + "?";
            DUE.wrongAt(town, text, text.length() - 1);
        }
        if (low > 0) {
            DUE.wrongAt(town, before + "0" + behind, from);
            DUE.wrongAt(town, before + "05" + behind, from);
            DUE.wrongAt(town, before + (low - 1) + behind, from + String.valueOf(low - 1).length() - 1);
        } else {
            DUE.wrongAt(town, before + "00" + behind, from + 1);
            DUE.wrongAt(town, before + "05" + behind, from + 1);
        }
        if (high < 9999) {
            String more = String.valueOf(high + 1);
            // For the second node 40 is the first one again, which is wrong there as well.
            DUE.wrongAt(town, before + more + behind, from + more.length() - 1);
            DUE.wrongAt(town, before + more, from + more.length() - 1);
            DUE.wrongAt(town, before + "612" + behind, from + 2);
            DUE.wrongAt(town, before + "9999" + behind, from + 3);
        }
        DUE.wrongAt(town, before + "10000" + behind, from + 4);
        DUE.wrongAt(town, before + "99999999999999999999" + behind, from + 4);
        DUE.wrongAt(town, before + "-1" + behind, from);
        DUE.wrongAt(town, before + "a" + behind, from);
        DUE.wrongAt(town, before, from);
    }

    private static void blanks() {
        DUE.rightAs("", "");
        DUE.rightAs("   ", "");
        DUE.rightAs("  p 1 = 2  > 3 : 45 b 6 [ 7 - 8 : 9 ] [ 0 - 0 : 1 ] ^ 2 ! 3 \"ab\" # 4 ;  ",
                "p1=2>3:45b6[7-8:9][0-0:1]^2!3\"ab\"#4;");
        DUE.rightAs(" h 1 @ 2 + 0 ; s 3 @ 4 + 5 ; x 1 - 2 - 3 ; g h 1 ; ", "s3@4+5;x1-2-3;");
        Graph town = new Graph();
        DUE.wrongAt(town, "p1 2=1", 3);
        DUE.wrongAt(town, "p1=1-2:1 0r9;", 9);
        DUE.wrongAt(town, "p1=1-1 2:9r9;", 5);
        DUE.wrongAt(town, "p1=1-2:9r9\" a\"#1;", 11);
        DUE.wrongAt(town, "p1=1-2:9r9\"a \"#1;", 12);
        DUE.wrongAt(town, "p1=1-2:9r9\"a b\"#1;", 12);
        DUE.wrongAt(town, "p1=1-2:9r9  ", 12);
        DUE.wrongAt(town, "p  61  ", 4);
        DUE.wrongAt(town, "p  ", 3);
        DUE.wrongAt(town, "  ;", 2);
    }
}
