/** Promises 5 to 11 and 16: piece, speed, name, barred, clear, spot, along, count. */
public final class TownTest {
    private static final Due DUE = new Due();

    public static void main(String[] args) {
        piece();
        speed();
        name();
        barredAndClear();
        spotAndAlong();
        count();
        DUE.finish();
    }

    private static void look(Graph town, int number, int... want) {
        for (int what = 0; what < want.length; what++) {
            DUE.same("piece(" + number + ", " + what + ")", town.piece(number, what), want[what]);
        }
    }

    private static void piece() {
        Graph town = Due.townOf("p1=3-4:5r6;p2=40>1:9999b99^99!98\"a\"#0;p3=1-2:1t1^7;p4=1-2:1f1!8;",
                "p60=2>1:10w10\"zz\"#9;");
        look(town, 1, 3, 4, 5, 0, 0, 0, 0, -1);
        look(town, 2, 40, 1, 9999, 1, 1, 99, 98, 0);
        look(town, 3, 1, 2, 1, 2, 0, 7, 0, -1);
        look(town, 4, 1, 2, 1, 3, 0, 0, 8, -1);
        look(town, 60, 2, 1, 10, 4, 1, 0, 0, 9);
        for (int number : new int[] {5, 59, 0, -1, 61, Integer.MIN_VALUE, Integer.MAX_VALUE}) {
            DUE.unknown(town, "piece(" + number + ", 0)", () -> town.piece(number, 0));
            DUE.unknown(town, "piece(" + number + ", 8)", () -> town.piece(number, 8));
        }
        for (int what : new int[] {8, -1, Integer.MIN_VALUE, Integer.MAX_VALUE}) {
            DUE.outside(town, "piece(1, " + what + ")", () -> town.piece(1, what));
        }
        Due.read(town, "p2=1-2:3r4;gp1;");
        look(town, 2, 1, 2, 3, 0, 0, 0, 0, -1);
        DUE.unknown(town, "a piece that is gone", () -> town.piece(1, 0));
    }

    private static void speed() {
        Graph town = Due.townOf("p1=1-2:5r50;p2=1-2:5r50[6-9:20][8-12:30][23-23:1];p3=1-2:9r9[0-23:99];");
        for (int hour = 0; hour < 24; hour++) {
            DUE.same("without hours at " + hour, town.speed(1, hour), 50);
            int want = hour >= 6 && hour <= 9 ? 20 : hour >= 10 && hour <= 12 ? 30 : hour == 23 ? 1 : 50;
            DUE.same("the first of the hours at " + hour, town.speed(2, hour), want);
            DUE.same("all day at " + hour, town.speed(3, hour), 99);
        }
        for (int hour : new int[] {-1, 24, Integer.MIN_VALUE, Integer.MAX_VALUE}) {
            DUE.outside(town, "speed(1, " + hour + ")", () -> town.speed(1, hour));
            DUE.unknown(town, "speed(4, " + hour + ")", () -> town.speed(4, hour));
        }
        for (int number : new int[] {0, -1, 4, 61, Integer.MIN_VALUE, Integer.MAX_VALUE}) {
            DUE.unknown(town, "speed(" + number + ", 0)", () -> town.speed(number, 0));
        }
    }

    private static void name() {
        Graph town = Due.townOf("p1=1-2:5r5;p2=1-2:5r5\"a\"#0;p3=1-2:5r5\"zyxwvuts\"#1;");
        String[] names = {"", "a", "zyxwvuts"};
        for (int number = 1; number <= 3; number++) {
            String name = names[number - 1];
            for (int i = 0; i < 12; i++) {
                int want = i < name.length() ? name.charAt(i) : -1;
                DUE.same("name(" + number + ", " + i + ")", town.name(number, i), want);
            }
            DUE.same("name far behind", town.name(number, Integer.MAX_VALUE), -1);
        }
        DUE.outside(town, "name(1, -1)", () -> town.name(1, -1));
        DUE.outside(town, "name(3, lowest)", () -> town.name(3, Integer.MIN_VALUE));
        for (int number : new int[] {0, -1, 4, 61, Integer.MIN_VALUE, Integer.MAX_VALUE}) {
            DUE.unknown(town, "name(" + number + ", 0)", () -> town.name(number, 0));
            DUE.unknown(town, "name(" + number + ", -1)", () -> town.name(number, -1));
        }
    }

    private static void barredAndClear() {
        Graph town = Due.townOf("x1-2-3;x40-1-40;x5-5-5;");
        DUE.same("1-2-3", town.barred(1, 2, 3), true);
        DUE.same("3-2-1", town.barred(3, 2, 1), false);
        DUE.same("1-3-2", town.barred(1, 3, 2), false);
        DUE.same("40-1-40", town.barred(40, 1, 40), true);
        DUE.same("5-5-5", town.barred(5, 5, 5), true);
        DUE.same("40-40-40", town.barred(40, 40, 40), false);
        for (int node : new int[] {0, -1, 41, Integer.MIN_VALUE, Integer.MAX_VALUE}) {
            DUE.outside(town, "barred(" + node + ", 2, 3)", () -> town.barred(node, 2, 3));
            DUE.outside(town, "barred(1, " + node + ", 3)", () -> town.barred(1, node, 3));
            DUE.outside(town, "barred(1, 2, " + node + ")", () -> town.barred(1, 2, node));
        }
        Due.read(town, "p1=1-2:3r4;gp1;x7-8-9;x1-2-3;");
        DUE.same("turns stay", town.count(3), 4);
        DUE.same("clear", town.clear(), 4);
        DUE.same("none barred", town.barred(1, 2, 3), false);
        DUE.same("clear again", town.clear(), 0);
        DUE.same("count behind clear", town.count(3), 0);
        town.read();
        DUE.same("an empty text brings none back", town.count(3), 0);
    }

    private static void spotAndAlong() {
        Graph town = Due.townOf("h1@2+3;h30@60+9999;s1@4+5;s2@59+0;");
        DUE.same("spot of h1", town.spot(1, false), 2);
        DUE.same("along of h1", town.along(1, false), 3);
        DUE.same("spot of h30", town.spot(30, false), 60);
        DUE.same("along of h30", town.along(30, false), 9999);
        DUE.same("spot of s1", town.spot(1, true), 4);
        DUE.same("along of s1", town.along(1, true), 5);
        DUE.same("spot of s2", town.spot(2, true), 59);
        DUE.same("along of s2", town.along(2, true), 0);
        for (int number : new int[] {0, -1, 29, 31, Integer.MIN_VALUE, Integer.MAX_VALUE}) {
            for (boolean station : new boolean[] {false, true}) {
                DUE.unknown(town, "spot(" + number + ", " + station + ")", () -> town.spot(number, station));
                DUE.unknown(town, "along(" + number + ", " + station + ")", () -> town.along(number, station));
            }
        }
        DUE.unknown(town, "a station's number for a building", () -> town.spot(2, false));
        DUE.unknown(town, "a building's number for a station", () -> town.along(30, true));
        Due.read(town, "gs1;");
        DUE.unknown(town, "a station that is gone", () -> town.spot(1, true));
        DUE.same("the building of its number", town.spot(1, false), 2);
        Due.read(town, "gh1;");
        DUE.unknown(town, "a building that is gone", () -> town.along(1, false));
    }

    private static void counts(Graph town, int... want) {
        for (int what = 0; what < want.length; what++) {
            DUE.same("count(" + what + ")", town.count(what), want[what]);
        }
    }

    private static void count() {
        Graph town = Due.townOf("p1=1-2:3r4;p2=2>1:3r4;p60=40-39:3w4;h1@1+1;s1@1+1;s2@1+1;x5-6-7;");
        counts(town, 3, 1, 2, 1, 4);
        Due.read(town, "p3=2-3:1f1;x5-6-7;x7-6-5;h30@1+1;h1@2+2;s30@9+9;");
        counts(town, 4, 2, 3, 2, 5);
        Due.read(town, "gp60;gp1;gh1;gs2;");
        counts(town, 2, 1, 2, 2, 3);
        for (int what : new int[] {5, -1, Integer.MIN_VALUE, Integer.MAX_VALUE}) {
            DUE.outside(town, "count(" + what + ")", () -> town.count(what));
        }
    }
}
