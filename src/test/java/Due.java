/** Counts the answers that are not the ones due, and tells them. */
final class Due {
    private int wrong;
    private int looked;

    /** Writes a text of characters 0 to 255 on the tape and answers what the last sign() answered. */
    static int write(StreetGraph town, String text) {
        int answer = 0;
        for (int from = 0; from < text.length(); from += 8) {
            int to = Math.min(text.length(), from + 8);
            // Bytes above the n lowest must not count, so they are not left 0.
            long bytes = -1;
            for (int i = from; i < to; i++) {
                bytes = bytes << 8 | text.charAt(i);
            }
            answer = town.sign(bytes, to - from);
        }
        return answer;
    }

    static int read(StreetGraph town, String text) {
        write(town, text);
        return town.read();
    }

    static StreetGraph townOf(String... texts) {
        StreetGraph town = new StreetGraph();
        for (String text : texts) {
            read(town, text);
        }
        return town;
    }

    static String printed(StreetGraph town) {
        int length = town.print();
        StringBuilder text = new StringBuilder();
        for (int i = 0; i < length; i++) {
            text.append((char) town.at(i));
        }
        return text.toString();
    }

    /** The faults as kind/number with a blank behind each. */
    static String faults(StreetGraph town) {
        int size = town.check();
        StringBuilder text = new StringBuilder();
        for (int i = 0; i < size; i++) {
            text.append(town.fault(i, 0)).append('/').append(town.fault(i, 1)).append(' ');
        }
        return text.toString();
    }

    void same(String what, Object got, Object want) {
        looked++;
        if (!got.equals(want)) {
            wrong++;
            System.out.println(what + " answered " + got + ", due is " + want);
        }
    }

    /** The very class counts: an ArrayIndexOutOfBoundsException is the machine's, not the program's. */
    void refused(String what, Class<? extends RuntimeException> want, Runnable call) {
        String got = "no refusal";
        try {
            call.run();
        } catch (RuntimeException e) {
            got = e.getClass().getName();
        }
        same(what, got, want.getName());
    }

    void unknown(String what, Runnable call) {
        refused(what, IllegalArgumentException.class, call);
    }

    void outside(String what, Runnable call) {
        refused(what, IndexOutOfBoundsException.class, call);
    }

    void noRoom(String what, Runnable call) {
        refused(what, UnsupportedOperationException.class, call);
    }

    /** The text is wrong at this place, and the town stays what it was. */
    void wrongAt(StreetGraph town, String text, int place) {
        String before = printed(town);
        write(town, text);
        refused("read of " + text, IllegalStateException.class, town::read);
        same("place in " + text, town.place(), place);
        same("the town after " + text, printed(town), before);
        same("the tape after " + text, town.sign(' ', 1), 1);
        town.read();
    }

    /** The text is right, and prints as this. */
    void rightAs(String text, String want) {
        StreetGraph town = new StreetGraph();
        write(town, text);
        try {
            town.read();
        } catch (IllegalStateException e) {
            same("place in " + text, town.place(), -1);
            return;
        }
        same("place in " + text, town.place(), -1);
        same("print of " + text, printed(town), want);
    }

    void finish() {
        System.out.println(looked + " answers looked at, " + wrong + " wrong");
        if (wrong != 0) {
            System.exit(1);
        }
    }
}
