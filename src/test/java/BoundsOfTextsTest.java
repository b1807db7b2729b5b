import java.util.Arrays;

/** The document's Terms, as far as they tell of texts: each method has one of their bounds, both sides of it. */
public final class BoundsOfTextsTest {
    private static final Due DUE = new Due();
    private static final String LONG_ROW = "p12=13>24:4567t78[1-23:45][2-20:30][0-11:22]^56!78\"abcdefgh\"#9";

    public static void main(String[] args) {
        texts();
        numbers();
        pieces();
        turns();
        buildings();
        stations();
        gone();
        places();
        rows();
        DUE.finish();
    }

    private static void about(String words) {
        DUE.about("Terms", words);
    }

    private static void texts() {
        aTextHasAtMost400Bytes();
        rowsEachEndedByASemicolon();
        noRowEndedTooEarly();
        noPartLeftOut();
        blanksMayStandBetweenSigns();
        blanksNotWithinNumbersAndNames();
        noOtherByteIsABlank();
    }

    private static void aTextHasAtMost400Bytes() {
        about("A TEXT has at most 400 bytes");
        String row = "p1=1-2:3r4;";
        DUE.right("");
        DUE.rightAs(" ".repeat(398 - row.length()) + row, row);
        DUE.rightAs(" ".repeat(399 - row.length()) + row, row);
        DUE.rightAs(" ".repeat(400 - row.length()) + row, row);
        DUE.rightAs("gp1;".repeat(100), "");
        Graph town = new Graph();
        Due.write(town, " ".repeat(401 - row.length()) + row.substring(0, row.length() - 1));
        DUE.noRoom(town, "the 401st byte", () -> town.sign(';', 1));
        DUE.wrongRead(town, "a text that lacks its 401st byte", 400);
    }

    private static void rowsEachEndedByASemicolon() {
        about("ROWS, each ended by a semicolon");
        DUE.right("h1@2+3;");
        DUE.right("h1@2+3;h2@2+3;");
        DUE.wrong("h1@2+3", 6);
        DUE.wrong("h1@2+3;h2@2+3", 13);
        DUE.wrong("h1@2+3h2@2+3;", 6);
        DUE.wrong("h1@2+3,h2@2+3;", 6);
        DUE.wrong("h1@2+3:", 6);
        DUE.wrong("h1@2+3;;", 7);
        DUE.wrong(";", 0);
        DUE.wrong(";h1@2+3;", 0);
    }

    /** A semicolon behind what is not yet a row is itself the wrong byte, with or without a blank before it. */
    private static void noRowEndedTooEarly() {
        about("ROWS, each ended by a semicolon");
        String[] beginnings = {"p", "p1", "p1=", "p1=1", "p1=1-", "p1=1>", "p1=1-2", "p1=1-2:", "p1=1-2:3", "p1=1-2:3r",
            "p1=1-2:3r4[", "p1=1-2:3r4[5", "p1=1-2:3r4[5-", "p1=1-2:3r4[5-6", "p1=1-2:3r4[5-6:", "p1=1-2:3r4[5-6:7",
            "p1=1-2:3r4[5-6:7][", "p1=1-2:3r4^", "p1=1-2:3r4!", "p1=1-2:3r4^5!", "p1=1-2:3r4\"a\"", "p1=1-2:3r4\"a\"#",
            "x", "x1", "x1-", "x1-2", "x1-2-", "h", "h1", "h1@", "h1@2", "h1@2+", "s", "s1", "s1@", "s1@2", "s1@2+",
            "g", "gp", "gh", "gs"};
        for (String beginning : beginnings) {
            DUE.wrong(beginning + ";", beginning.length());
            DUE.wrong(beginning + " ;", beginning.length() + 1);
            DUE.wrong("gp1;" + beginning + ";gp1;", 4 + beginning.length());
        }
        // Within a name a blank is no less wrong than the semicolon.
        DUE.wrong("p1=1-2:3r4\";", 11);
        DUE.wrong("p1=1-2:3r4\"a;", 12);
    }

    /** With a blank in the place of one of its parts a row is wrong at the part behind it. */
    private static void noPartLeftOut() {
        about("A PIECE: p, its number (1 .. 60), =, a NODE (1 .. 40)");
        for (String row : new String[] {"p 1 = 1 - 2 : 3 r 4 ;", "p 1 = 1 > 2 : 3 r 4 [ 5 - 6 : 7 ] ^ 8 ! 9 \"a\" # 1 ;",
            "x 1 - 2 - 3 ;", "h 1 @ 2 + 3 ;", "s 1 @ 2 + 3 ;"}) {
            String[] parts = row.split(" ");
            DUE.right(String.join("", parts));
            for (int i = 0; i < parts.length; i++) {
                String before = String.join("", Arrays.copyOfRange(parts, 0, i));
                String behind = String.join("", Arrays.copyOfRange(parts, i + 1, parts.length));
                DUE.wrong(before + " " + behind, before.length() + 1);
            }
        }
        // Several parts in a row, up to a sign that is right further on.
        DUE.wrong("p1=:3r4;", 3);
        DUE.wrong("p1=1:3r4;", 4);
        DUE.wrong("p1=1-2r4;", 6);
        DUE.wrong("p1=1-2:3r4[:7];", 11);
        DUE.wrong("p1=1-2:3r4[5:7];", 12);
        DUE.wrong("p1=1-2:3r4[5-6];", 14);
        DUE.wrong("p1=1-2:3r4[];", 11);
        DUE.wrong("x-3;", 1);
        DUE.wrong("h+3;", 1);
        DUE.wrong("g 1;", 2);
        DUE.wrong("gp ;", 3);
    }

    private static void blanksMayStandBetweenSigns() {
        about("blanks may stand between signs");
        DUE.rightAs(" ", "");
        DUE.rightAs(" ".repeat(400), "");
        for (String row : new String[] {LONG_ROW, "x12-34-5", "h12@34+5678", "s12@34+5678"}) {
            DUE.rightAs(" " + row + ";", row + ";");
            DUE.rightAs(row + "; ", row + ";");
            for (int i = 1; i <= row.length(); i++) {
                if (!isWithinNumberOrName(row, i)) {
                    DUE.rightAs(row.substring(0, i) + " " + row.substring(i) + ";", row + ";");
                    DUE.rightAs(row.substring(0, i) + " ".repeat(99) + row.substring(i) + ";", row + ";");
                }
            }
        }
        DUE.rightAs(" g p 12 ; g h 12 ; g s 12 ; ", "");
    }

    private static void blanksNotWithinNumbersAndNames() {
        about("not within numbers and names");
        for (String row : new String[] {LONG_ROW, "x12-34-5", "h12@34+5678", "s12@34+5678", "gp12", "gh12", "gs12"}) {
            for (int i = 1; i < row.length(); i++) {
                if (isWithinNumberOrName(row, i)) {
                    // Within a number it is the digit behind the blank that nothing can make right.
                    int place = isDigit(row.charAt(i)) ? i + 1 : i;
                    DUE.wrong(row.substring(0, i) + " " + row.substring(i) + ";", place);
                }
            }
        }
    }

    /** Whether what is put in before byte i stands between two digits, or between a name's quotes. */
    private static boolean isWithinNumberOrName(String row, int i) {
        int opening = row.indexOf('"');
        int closing = row.lastIndexOf('"');
        if (i < row.length() && isDigit(row.charAt(i - 1)) && isDigit(row.charAt(i))) {
            return true;
        }
        return opening >= 0 && i > opening && i <= closing;
    }

    private static boolean isDigit(int sign) {
        return sign >= '0' && sign <= '9';
    }

    private static void noOtherByteIsABlank() {
        about("blanks may stand between signs");
        for (char sign = 0; sign < 256; sign++) {
            if (sign == ' ') {
                DUE.rightAs("h1@2+3" + sign + ";", "h1@2+3;");
            } else if (!isDigit(sign) && sign != ';') {
                DUE.wrong("h1@2+3" + sign + ";", 6);
            }
            if (sign != ' ' && "pxhsg".indexOf(sign) < 0) {
                DUE.wrong(sign + "h1@2+3;", 0);
            }
        }
    }

    private static void numbers() {
        numbersHaveOneToFourDigits();
        numbersWithout0InFront();
    }

    private static void numbersHaveOneToFourDigits() {
        about("NUMBERS have one to four digits");
        DUE.wrong("h1@2+;", 5);
        DUE.right("h1@2+7;");
        DUE.right("h1@2+78;");
        DUE.right("h1@2+789;");
        DUE.right("h1@2+7890;");
        DUE.wrong("h1@2+78901;", 9);
        DUE.wrong("p1=1-2:r4;", 7);
        DUE.right("p1=1-2:3r4;");
        DUE.right("p1=1-2:3333r4;");
        DUE.wrong("p1=1-2:33333r4;", 11);
        DUE.wrong("p1=1-2:333333r4;", 11);
        for (int sign : new int[] {'0' - 1, '9' + 1}) {
            DUE.wrong("h1@2+" + (char) sign + ";", 5);
            DUE.wrong("h1@2+7" + (char) sign + ";", 6);
        }
    }

    private static void numbersWithout0InFront() {
        about("without 0 in front");
        for (String number : new String[] {"10", "100", "1000", "1001", "9009"}) {
            DUE.right("p1=1-2:" + number + "r4;");
            DUE.right("h1@2+" + number + ";");
        }
        DUE.right("h1@2+0;");
        DUE.right("p1=1-2:3r4[0-0:5]\"a\"#0;");
        for (String number : new String[] {"00", "01", "09", "0000", "0001", "00000", "012345"}) {
            // Where a 0 may be, the digit behind it is wrong; where none may be, the 0 itself is.
            DUE.wrong("h1@2+" + number + ";", 6);
            DUE.wrong("p1=1-2:3r4[" + number + "-23:5];", 12);
            DUE.wrong("p1=1-2:3r4[0-" + number + ":5];", 14);
            DUE.wrong("p1=1-2:3r4[5-" + number + ":5];", 13);
            DUE.wrong("p1=1-2:3r4\"a\"#" + number + ";", 15);
            DUE.wrong("p" + number + "=1-2:3r4;", 1);
            DUE.wrong("p1=1-2:" + number + "r4;", 7);
        }
    }

    /** A row whose number may be low .. high: the two numbers within, and the two without. */
    private static void range(String before, int low, int high, String behind) {
        boolean isGone = before.startsWith("g");
        for (int number : new int[] {low, low + 1, high - 1, high}) {
            DUE.rightAs(before + number + behind, isGone ? "" : before + number + behind);
        }
        for (int number : new int[] {low - 1, high + 1}) {
            if (number >= 0) {
                DUE.wrong(before + number + behind, (before + number).length() - 1);
                DUE.wrong(before + number, (before + number).length() - 1);
            }
        }
        DUE.wrong(before + "-1" + behind, before.length());
        DUE.wrong(before, before.length());
    }

    private static void pieces() {
        aPiecesNumber1To60();
        aNode1To40();
        bothWaysOrOneWay();
        anotherNodeADifferentOne();
        aLength1To9999();
        aKind();
        aSpeed1To99();
        perhapsInThisOrder();
        upToThreeHours();
        anHour0To23();
        anHourNotBelow();
        anHoursSpeed1To99();
        aHeight1To99();
        aWeight1To99();
        aName1To8Letters();
        lettersAToZ();
        aNameWithAnAreaBehindIt();
        anArea0To9();
    }

    private static void aPiecesNumber1To60() {
        about("A PIECE: p, its number (1 .. 60)");
        range("p", 1, 60, "=1-2:3r4;");
    }

    private static void aNode1To40() {
        about("a NODE (1 .. 40)");
        range("p1=", 1, 40, "-7:3r4;");
        range("p1=", 1, 40, ">7:3r4;");
        range("p1=7-", 1, 40, ":3r4;");
        range("p1=7>", 1, 40, ":3r4;");
    }

    private static void bothWaysOrOneWay() {
        about("- (both ways) or > (one way)");
        for (char sign = 0; sign < 256; sign++) {
            String text = "p1=1" + sign + "2:3r4;";
            if (sign == '-' || sign == '>') {
                DUE.right(text);
            } else if (sign != ' ' && !isDigit(sign)) {
                DUE.wrong(text, 4);
            }
        }
        DUE.wrong("p1=1->2:3r4;", 5);
        DUE.wrong("p1=1 2:3r4;", 5);
    }

    private static void anotherNodeADifferentOne() {
        about("another node (a different one)");
        for (String way : new String[] {"-", ">"}) {
            DUE.right("p1=1" + way + "2:3r4;");
            DUE.right("p1=2" + way + "1:3r4;");
            DUE.wrong("p1=1" + way + "1:3r4;", 5);
            DUE.right("p1=39" + way + "40:3r4;");
            DUE.right("p1=40" + way + "39:3r4;");
            DUE.wrong("p1=40" + way + "40:3r4;", 7);
            DUE.right("p1=12" + way + "1:3r4;");
            DUE.right("p1=1" + way + "12:3r4;");
            DUE.right("p1=12" + way + "2:3r4;");
        }
    }

    private static void aLength1To9999() {
        about("its LENGTH (1 .. 9,999)");
        range("p1=1-2:", 1, 9999, "r4;");
    }

    private static void aKind() {
        about("its KIND (r road, b bridge, t tunnel, f foot, w water)");
        for (char sign = 0; sign < 256; sign++) {
            String text = "p1=1-2:3" + sign + "4;";
            if ("rbtfw".indexOf(sign) >= 0) {
                DUE.right(text);
            } else if (sign != ' ' && !isDigit(sign)) {
                DUE.wrong(text, 8);
            }
        }
        DUE.wrong("p1=1-2:3 4;", 9);
        DUE.wrong("p1=1-2:34;", 9);
        DUE.wrong("p1=1-2:3rr4;", 9);
    }

    private static void aSpeed1To99() {
        about("its SPEED (1 .. 99)");
        range("p1=1-2:3r", 1, 99, ";");
    }

    private static void perhapsInThisOrder() {
        about("then perhaps, in this order");
        String[] parts = {"[1-2:3]", "^4", "!5", "\"ab\"#6"};
        for (int chosen = 0; chosen < 16; chosen++) {
            StringBuilder row = new StringBuilder("p1=1-2:3r4");
            for (int i = 0; i < 4; i++) {
                row.append((chosen >> i & 1) == 1 ? parts[i] : "");
            }
            DUE.right(row + ";");
        }
        for (int later = 0; later < 4; later++) {
            for (int earlier = 0; earlier <= later; earlier++) {
                String row = "p1=1-2:3r4" + parts[later];
                if (later != 0) {
                    DUE.wrong(row + parts[earlier] + ";", row.length());
                }
            }
        }
    }

    private static void upToThreeHours() {
        about("up to three HOURS");
        for (int times = 0; times <= 3; times++) {
            DUE.right("p1=1-2:3r4" + "[5-6:7]".repeat(times) + ";");
            DUE.right("p1=1-2:3r4" + "[5-6:7]".repeat(times) + "^1!1\"a\"#1;");
        }
        DUE.wrong("p1=1-2:3r4" + "[5-6:7]".repeat(4) + ";", 31);
        DUE.wrong("p1=1-2:3r4" + "[5-6:7]".repeat(3) + "[", 31);
    }

    private static void anHour0To23() {
        about("an hour 0 .. 23");
        range("p1=1-2:3r4[", 0, 23, "-23:5];");
        range("p1=1-2:3r4[0-", 0, 23, ":5];");
        range("p1=1-2:3r4[1-2:3][1-2:3][", 0, 23, "-23:5];");
    }

    private static void anHourNotBelow() {
        about("an hour not below");
        for (int from = 0; from < 24; from++) {
            String before = "p1=1-2:3r4[" + from + "-";
            DUE.right(before + from + ":5];");
            if (from < 23) {
                DUE.right(before + (from + 1) + ":5];");
            }
            if (from > 0) {
                DUE.wrong(before + (from - 1) + ":5];", (before + (from - 1)).length() - 1);
                DUE.wrong(before + "0:5];", before.length());
            }
        }
    }

    private static void anHoursSpeed1To99() {
        about("a colon, a speed 1 .. 99, ]");
        range("p1=1-2:3r4[5-6:", 1, 99, "];");
    }

    private static void aHeight1To99() {
        about("^ and a HEIGHT (1 .. 99)");
        range("p1=1-2:3r4^", 1, 99, ";");
    }

    private static void aWeight1To99() {
        about("! and a WEIGHT (1 .. 99)");
        range("p1=1-2:3r4!", 1, 99, ";");
        range("p1=1-2:3r4^9!", 1, 99, ";");
    }

    private static void aName1To8Letters() {
        about("a NAME (\" 1 .. 8 letters a .. z \")");
        DUE.wrong("p1=1-2:3r4\"\"#1;", 11);
        for (int length = 1; length <= 8; length++) {
            DUE.right("p1=1-2:3r4\"" + "abcdefgh".substring(0, length) + "\"#1;");
        }
        DUE.wrong("p1=1-2:3r4\"abcdefghi\"#1;", 19);
        DUE.wrong("p1=1-2:3r4\"abcdefghi", 19);
        DUE.wrong("p1=1-2:3r4\"abcdefgh", 19);
    }

    private static void lettersAToZ() {
        about("a NAME (\" 1 .. 8 letters a .. z \")");
        for (char sign = 0; sign < 256; sign++) {
            String alone = "p1=1-2:3r4\"" + sign + "\"#1;";
            String last = "p1=1-2:3r4\"abcdefg" + sign + "\"#1;";
            if (sign >= 'a' && sign <= 'z') {
                DUE.right(alone);
                DUE.right(last);
            } else {
                DUE.wrong(alone, 11);
                // A quote ends the name there, and the second one is not the # that is due.
                DUE.wrong(last, sign == '"' ? 19 : 18);
            }
        }
    }

    private static void aNameWithAnAreaBehindIt() {
        about("with # and an AREA (0 .. 9) behind it");
        DUE.right("p1=1-2:3r4\"a\"#1;");
        DUE.wrong("p1=1-2:3r4\"a\";", 13);
        DUE.wrong("p1=1-2:3r4\"a\"", 13);
        DUE.wrong("p1=1-2:3r4\"a\"1;", 13);
        DUE.wrong("p1=1-2:3r4#1;", 10);
        DUE.wrong("p1=1-2:3r4\"a\"#;", 14);
    }

    private static void anArea0To9() {
        about("an AREA (0 .. 9)");
        range("p1=1-2:3r4\"a\"#", 0, 9, ";");
    }

    private static void turns() {
        about("A BARRED turn: x, a node, -, a node, -, a node");
        range("x", 1, 40, "-2-3;");
        range("x1-", 1, 40, "-3;");
        range("x1-2-", 1, 40, ";");
        // Nothing is said of different nodes here.
        DUE.right("x1-1-1;");
        DUE.right("x40-40-39;");
        DUE.right("x40-39-40;");
        DUE.wrong("x1-2;", 4);
        DUE.wrong("x1-2-3-4;", 6);
        DUE.wrong("x1>2-3;", 2);
        DUE.wrong("x1-2>3;", 4);
    }

    private static void buildings() {
        aBuildingsNumber1To30();
        aBuildingsPiece1To60();
        aBuildingsMetres0To9999();
    }

    private static void aBuildingsNumber1To30() {
        about("A BUILDING: h, its number (1 .. 30)");
        range("h", 1, 30, "@2+3;");
    }

    private static void aBuildingsPiece1To60() {
        about("a piece's number (1 .. 60)");
        range("h1@", 1, 60, "+3;");
    }

    private static void aBuildingsMetres0To9999() {
        about("metres (0 .. 9,999)");
        range("h1@2+", 0, 9999, ";");
        // Beyond the piece's length is a fault, not a wrong text.
        DUE.right("p2=1-2:5r4;h1@2+5;");
        DUE.right("p2=1-2:5r4;h1@2+6;");
    }

    private static void stations() {
        about("A STATION: s, likewise.");
        range("s", 1, 30, "@2+3;");
        range("s1@", 1, 60, "+3;");
        range("s1@2+", 0, 9999, ";");
    }

    private static void gone() {
        goneWithANumber();
        goneIsNoMore();
        goneNothingWhenThereIsNoneSuch();
    }

    private static void goneWithANumber() {
        about("GONE: g, and p, h or s with a number");
        range("gp", 1, 60, ";");
        range("gh", 1, 30, ";");
        range("gs", 1, 30, ";");
        for (char sign = 0; sign < 256; sign++) {
            if ("phs ".indexOf(sign) < 0) {
                DUE.wrong("g" + sign + "1;", 1);
            }
        }
        DUE.wrong("g 1;", 2);
        DUE.wrong("gp;", 2);
        DUE.wrong("gx1-2-3;", 1);
    }

    private static void goneIsNoMore() {
        about("that one is no more");
        String[] rows = {"p1=1-2:3r4;", "p60=1-2:3r4;", "h1@1+1;", "h30@1+1;", "s1@1+1;", "s30@1+1;"};
        String all = String.join("", rows);
        for (String row : rows) {
            String name = row.substring(0, row.indexOf(row.charAt(0) == 'p' ? '=' : '@'));
            DUE.rightAs(all + "g" + name + ";", all.replace(row, ""));
        }
        DUE.rightAs(all + "gp1;gp60;gh1;gh30;gs1;gs30;", "");
    }

    private static void goneNothingWhenThereIsNoneSuch() {
        about("(nothing when there is none such)");
        DUE.rightAs("gp1;gp60;gh1;gh30;gs1;gs30;", "");
        String others = "p2=1-2:3r4;p59=1-2:3r4;h2@1+1;h29@1+1;s2@1+1;s29@1+1;x1-1-1;";
        DUE.rightAs(others + "gp1;gp60;gh1;gh30;gs1;gs30;", others);
        DUE.rightAs("p1=1-2:3r4;gp1;gp1;", "");
        Graph town = Due.townOf(others);
        String before = Shown.town(town);
        DUE.same("pieces after none such went", Due.read(town, "gp1;gp60;gh1;gh30;gs1;gs30;"), 2);
        DUE.same("the town after none such went", Shown.town(town), before);
    }

    private static void places() {
        wrongAtTheFirstByteWithWhichItCantBeRight();
        wrongWhateverFollows();
        itsLengthWhenSomethingIsMissing();
        numbersThatAreNotSoAtTheirLastByte();
        aFifthDigitAtItself();
        theSecondOneOfTwoNodesOrHours();
    }

    private static void wrongAtTheFirstByteWithWhichItCantBeRight() {
        about("A text is WRONG at the first byte with which it can't be right");
        DUE.wrong("q", 0);
        DUE.wrong("h1@2+3;q", 7);
        DUE.wrong("h1@2+3;h1?2?3;?", 9);
        DUE.wrong(" ".repeat(399) + "q", 399);
        DUE.wrong("gp1;".repeat(99) + "gp1?", 399);
        // At every byte of a row one that nothing takes: it is wrong there, not before and not behind.
        for (int i = 0; i < LONG_ROW.length(); i++) {
            DUE.wrong(LONG_ROW.substring(0, i) + "?", i);
            DUE.wrong(LONG_ROW.substring(0, i) + "\u00ff" + LONG_ROW.substring(i) + ";", i);
        }
    }

    private static void wrongWhateverFollows() {
        about("whatever follows");
        for (String behind : new String[] {"", ";", " ", "1", "-2:3r4;", "h1@2+3;", "?", "\0"}) {
            DUE.wrong("p1=1+" + behind, 4);
            DUE.wrong("gp1;;" + behind, 4);
            DUE.wrong("p1=1-2:3r4\"A" + behind, 11);
        }
    }

    private static void itsLengthWhenSomethingIsMissing() {
        about("(its length when something is missing)");
        for (String row : new String[] {LONG_ROW, "x1-2-3", "h1@2+3", "s30@60+9999", "gp60", "gh30", "gs30"}) {
            for (int length = 1; length <= row.length(); length++) {
                String beginning = row.substring(0, length);
                DUE.wrong(beginning, length);
                DUE.wrong("gp1;" + beginning, 4 + length);
                DUE.wrong(" ".repeat(400 - length) + beginning, 400);
                // What the former text had there does not count.
                DUE.wrongAt(Due.townOf(row + ";"), beginning, length);
            }
        }
        DUE.wrong("p ", 2);
        DUE.wrong("gp1   ", 6);
        DUE.right("");
    }

    private static void numbersThatAreNotSoAtTheirLastByte() {
        about("numbers that are not so at their last byte (612 for a piece at its 2;");
        DUE.wrong("p612=1-2:3r4;", 3);
        DUE.wrong("p612", 3);
        DUE.wrong("p61", 2);
        DUE.wrong("p6123=", 4);
        DUE.wrong("p9999", 4);
        DUE.wrong("p1=412-1", 5);
        DUE.wrong("p1=1-412:", 7);
        DUE.wrong("p1=1-2:3r412;", 11);
        DUE.wrong("p1=1-2:3r4[241-", 13);
        DUE.wrong("p1=1-2:3r4[1-241:", 15);
        DUE.wrong("p1=1-2:3r4[1-2:100]", 17);
        DUE.wrong("p1=1-2:3r4^100", 13);
        DUE.wrong("p1=1-2:3r4!100", 13);
        DUE.wrong("p1=1-2:3r4\"a\"#123;", 16);
        DUE.wrong("x411-", 3);
        DUE.wrong("h311@", 3);
        DUE.wrong("s1@611+", 5);
        DUE.wrong("gp611;", 4);
        DUE.wrong("gh311;", 4);
    }

    private static void aFifthDigitAtItself() {
        about("a fifth digit at itself;");
        String[] rows = {"p", "p1=", "p1=1-", "p1=1-2:", "p1=1-2:3r", "p1=1-2:3r4[", "p1=1-2:3r4[1-",
            "p1=1-2:3r4[1-2:", "p1=1-2:3r4^", "p1=1-2:3r4!", "p1=1-2:3r4\"a\"#", "x", "x1-", "x1-2-",
            "h", "h1@", "h1@2+", "s", "s1@", "s1@2+", "gp", "gh", "gs"};
        for (String before : rows) {
            DUE.wrong(before + "12345", before.length() + 4);
            DUE.wrong(before + "10000;", before.length() + 4);
            DUE.wrong(before + "1234567890", before.length() + 4);
            DUE.wrong(before + "9".repeat(100), before.length() + 4);
        }
    }

    private static void theSecondOneOfTwoNodesOrHours() {
        about("also the second one of two nodes or hours that are not so)");
        DUE.wrong("p1=1-1", 5);
        DUE.wrong("p1=1>1:3r4;", 5);
        DUE.wrong("p1=12-12", 7);
        DUE.wrong("p1=12- 12 :3r4;", 8);
        DUE.wrong("p1=1-2:3r4[9-8", 13);
        DUE.wrong("p1=1-2:3r4[12-11:5];", 15);
        DUE.wrong("p1=1-2:3r4[12-1 :5];", 14);
        // The text's end ends a number, though with another digit it would be so.
        DUE.wrong("p1=1-2:3r4[10-2", 14);
        DUE.right("p1=1-2:3r4[10-20:5];");
        DUE.right("p1=1-12:3r4;");
        // The first of them alone is not wrong: the text goes on to the byte behind it.
        DUE.wrong("p1=12?", 5);
        DUE.wrong("p1=12-1?", 7);
        DUE.wrong("p1=1-2:3r4[12?", 13);
        DUE.wrong("p1=1-2:3r4[12-12?", 16);
    }

    private static void rows() {
        rowsCountInOrder();
        oneWithANumberThatThereIsComesInItsPlace();
        barredTurnsAtMost20Different();
        barredTurnsStayUntilCleared();
        aWrongTextChangesNothing();
    }

    private static void rowsCountInOrder() {
        about("Rows count in order");
        DUE.rightAs("p1=1-2:3r4;gp1;", "");
        DUE.rightAs("gp1;p1=1-2:3r4;", "p1=1-2:3r4;");
        DUE.rightAs("h1@2+3;gh1;", "");
        DUE.rightAs("gh1;h1@2+3;", "h1@2+3;");
        DUE.rightAs("s1@2+3;gs1;", "");
        DUE.rightAs("gs1;s1@2+3;", "s1@2+3;");
        DUE.rightAs("x2-2-2;x1-1-1;x2-2-2;", "x2-2-2;x1-1-1;");
    }

    private static void oneWithANumberThatThereIsComesInItsPlace() {
        about("one with a number that there is comes in its place");
        for (String number : new String[] {"1", "60"}) {
            String full = "p" + number + "=1>2:3t4[1-2:3]^5!6\"ab\"#7;";
            String bare = "p" + number + "=3-4:5r6;";
            DUE.rightAs(full + bare, bare);
            DUE.rightAs(bare + full, full);
            Graph town = Due.townOf(full);
            DUE.same("pieces", Due.read(town, bare), 1);
            DUE.same("the town", Due.printed(town), bare);
        }
        for (String name : new String[] {"h1", "h30", "s1", "s30"}) {
            DUE.rightAs(name + "@1+2;" + name + "@60+9999;" + name + "@3+0;", name + "@3+0;");
        }
        DUE.rightAs("p1=1-2:3r4;p2=1-2:3r4;h1@1+1;h2@1+1;s1@1+1;", "p1=1-2:3r4;p2=1-2:3r4;h1@1+1;h2@1+1;s1@1+1;");
    }

    private static String turns(int from, int to) {
        StringBuilder text = new StringBuilder();
        for (int node = from; node <= to; node++) {
            text.append('x').append(node).append("-2-3;");
        }
        return text.toString();
    }

    private static void barredTurnsAtMost20Different() {
        about("Barred turns (at most 20 different ones)");
        DUE.right(turns(1, 19));
        DUE.right(turns(1, 20));
        DUE.rightAs(turns(1, 20) + turns(1, 20), turns(1, 20));
        for (Graph town : new Graph[] {new Graph(), Due.townOf(turns(1, 19)), Due.townOf(turns(1, 20))}) {
            Due.write(town, turns(1, 21));
            DUE.readWithoutRoom(town, "a 21st turn");
            DUE.same("pieces after room for 20", Due.read(town, turns(1, 20)), 0);
            DUE.same("turns", town.count(3), 20);
            Due.write(town, "x3-2-1;");
            DUE.readWithoutRoom(town, "a 21st turn with the same nodes as another one");
        }
    }

    private static void barredTurnsStayUntilCleared() {
        about("stay until cleared");
        Graph town = Due.townOf("p1=1-2:3r4;p2=2-3:3r4;x1-2-3;x3-2-1;");
        Due.read(town, "gp1;gp2;");
        Due.read(town, "p1=1-2:3r4;x1-2-3;");
        DUE.wrongAt(town, "x4-4-4;q", 7);
        DUE.same("the turns", Due.printed(town), "p1=1-2:3r4;x1-2-3;x3-2-1;");
        DUE.same("clear", town.clear(), 2);
        DUE.same("no turns", Due.printed(town), "p1=1-2:3r4;");
        town.read();
        DUE.same("no turns behind the next text", Due.printed(town), "p1=1-2:3r4;");
    }

    private static void aWrongTextChangesNothing() {
        about("A wrong text changes nothing.");
        String changes = "p1=5>6:7f8;p3=1-2:3r4;h1@9+9;h3@1+1;s1@9+9;s3@1+1;x4-4-4;gp2;gp60;gh30;gs30;";
        Graph town = Due.someTown();
        DUE.wrongAt(town, changes + "g", changes.length() + 1);
        DUE.wrongAt(town, changes + ";", changes.length());
        DUE.wrongAt(town, changes.substring(0, changes.length() - 1), changes.length() - 1);
        DUE.wrongAt(town, changes + turns(1, 21) + "?", changes.length() + turns(1, 21).length());
        String before = Shown.town(town);
        DUE.same("pieces behind the right one", Due.read(town, changes), 2);
        DUE.same("that the right one changes the town", Shown.town(town).equals(before), false);
    }
}
