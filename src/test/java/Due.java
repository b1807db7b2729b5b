import java.io.IOException;
import java.nio.file.Files;
import java.nio.file.Path;

/** Counts the answers that are not the ones due, and tells them. */
final class Due {
    private final String document = documentOrNull();
    private String about = "";
    private int wrong;
    private int looked;

    /** Writes a text of characters 0 to 255 on the tape and answers what the last sign() answered. */
    static int write(Graph town, String text) {
        int answer = 0;
        for (int from = 0; from < text.length(); from += 8) {
            int to = Math.min(text.length(), from + 8);
            // Bytes above the n lowest must not count, so they are not left 0.
            long bytes = -1;
            for (int i = from; i < to; i++) {
                bytes = bytes << 8 | text.charAt(i);
            }
            answer = town.sign(bytes, to - from);
        }
        return answer;
    }

    static int read(Graph town, String text) {
        write(town, text);
        return town.read();
    }

    static Graph townOf(String... texts) {
        Graph town = new Graph();
        for (String text : texts) {
            read(town, text);
        }
        return town;
    }

    /** A town with some of everything; its latest place, print and check tell of former texts. */
    static Graph someTown() {
        Graph town = townOf("p1=1-2:300r50[6-9:20]\"ab\"#1;p60=40>39:9999w99^9!8;h1@1+0;h30@2+5;s1@1+1;s30@60+7;"
                + "x1-2-3;x3-2-1;");
        town.check();
        town.print();
        read(town, "gh1;p2=2-3:5f5;x40-40-40;");
        write(town, "gp?");
        try {
            town.read();
        } catch (IllegalStateException e) {
            return town;
        }
        throw new AssertionError("gp? was read");
    }

    /** The same with a row on the tape that lacks its semicolon. */
    static Graph someTownAndTape() {
        Graph town = someTown();
        write(town, "p59=38>39:59w59");
        return town;
    }

    static String printed(Graph town) {
        int length = town.print();
        StringBuilder text = new StringBuilder();
        for (int i = 0; i < length; i++) {
            text.append((char) town.at(i));
        }
        return text.toString();
    }

    /** The bytes up to the first -1. */
    static String latestPrint(Graph town) {
        StringBuilder text = new StringBuilder();
        for (int next = town.at(0); next >= 0; next = town.at(text.length())) {
            text.append((char) next);
        }
        return text.toString();
    }

    /** The faults as kind/number with a blank behind each. */
    static String faults(Graph town) {
        int size = town.check();
        StringBuilder text = new StringBuilder();
        for (int i = 0; i < size; i++) {
            text.append(town.fault(i, 0)).append('/').append(town.fault(i, 1)).append(' ');
        }
        return text.toString();
    }

    /** What is looked at from here on is about these words of the document, under this heading. */
    void about(String heading, String words) {
        about = heading + ", '" + words + "': ";
        if (document != null) {
            int from = document.indexOf("## " + heading + " ");
            int to = from < 0 ? -1 : document.indexOf(" ## ", from);
            String section = from < 0 ? "" : document.substring(from, to < 0 ? document.length() : to);
            same("that the document has these words", section.contains(words), true);
        }
    }

    /** The document that .ci/run names, in one line; null where none is named. */
    private static String documentOrNull() {
        String path = System.getProperty("document");
        try {
            return path == null ? null : Files.readString(Path.of(path)).replaceAll("\\s+", " ");
        } catch (IOException e) {
            System.out.println("no document is at " + path + ", so no words are looked up in it");
            return null;
        }
    }

    void same(String what, Object got, Object want) {
        looked++;
        if (!got.equals(want)) {
            wrong++;
            System.out.println(about + what + " answered " + got + ", due is " + want);
        }
    }

    /** The very class counts: an ArrayIndexOutOfBoundsException is the machine's, not the program's. */
    private void refused(String what, Class<? extends RuntimeException> want, Runnable call) {
        String got = "no refusal";
        try {
            call.run();
        } catch (RuntimeException e) {
            got = e.getClass().getName();
        }
        same(what, got, want.getName());
    }

    private void refusedUnchanged(Graph town, String what, Class<? extends RuntimeException> want, Runnable call) {
        String before = Shown.all(town);
        refused(what, want, call);
        same("what is shown after " + what, Shown.all(town), before);
    }

    /** The call is refused, and no later call shows anything that it has changed. */
    void unknown(Graph town, String what, Runnable call) {
        refusedUnchanged(town, what, IllegalArgumentException.class, call);
    }

    void outside(Graph town, String what, Runnable call) {
        refusedUnchanged(town, what, IndexOutOfBoundsException.class, call);
    }

    void noRoom(Graph town, String what, Runnable call) {
        refusedUnchanged(town, what, UnsupportedOperationException.class, call);
    }

    /** The read of the tape is refused: it is used up, and nothing but the place is changed. */
    private void refusedRead(Graph town, String what, Class<? extends RuntimeException> want, int place) {
        String before = Shown.town(town);
        String latest = Shown.latest(town);
        int placeBefore = town.place();
        refused(what, want, town::read);
        same("place behind " + what, town.place(), place);
        same("the town behind " + what, Shown.town(town), before);
        same("the latest print and check behind " + what, Shown.latest(town),
                latest.replace("place " + placeBefore + " print", "place " + place + " print"));
        same("the tape behind " + what, town.copy().sign(' ', 1), 1);
    }

    void wrongRead(Graph town, String what, int place) {
        refusedRead(town, what, IllegalStateException.class, place);
    }

    void readWithoutRoom(Graph town, String what) {
        refusedRead(town, what, UnsupportedOperationException.class, -1);
    }

    /** The text is wrong at this place, for a copy of this town. */
    void wrongAt(Graph town, String text, int place) {
        Graph copy = town.copy();
        write(copy, text);
        wrongRead(copy, "read of " + text, place);
    }

    /** The text is wrong at this place, for a new town and for one with some of everything. */
    void wrong(String text, int place) {
        wrongAt(new Graph(), text, place);
        wrongAt(someTown(), text, place);
    }

    /** The text is right, and a new town prints as this behind it. */
    void rightAs(String text, String want) {
        Graph town = new Graph();
        write(town, text);
        try {
            town.read();
        } catch (IllegalStateException e) {
            same("place in " + text, town.place(), -1);
            return;
        }
        same("place in " + text, town.place(), -1);
        same("print of " + text, printed(town), want);
    }

    /** The text is right, and prints as it is. */
    void right(String text) {
        rightAs(text, text);
    }

    void finish() {
        System.out.println(looked + " answers looked at, " + wrong + " wrong");
        if (wrong != 0) {
            System.exit(1);
        }
    }
}
