/** A town that is read from texts, looked at, checked for faults and printed as a text again. */
public final class StreetGraph {
    private static final int PIECES = 60;
    private static final int NODES = 40;
    private static final int SPOTS = 30;
    private static final int TURNS = 20;
    private static final int TAPE = 400;
    private static final int BYTES_A_CALL = 8;
    private static final int HOURS_A_DAY = 24;
    private static final int HOURS_A_PIECE = 3;
    private static final int LETTERS = 8;
    private static final int DIGITS = 4;
    private static final int MOST_METRES = 9999;
    private static final int MOST_SPEED = 99;
    private static final int MOST_LIMIT = 99;
    private static final int MOST_AREA = 9;
    private static final int NONE = -1;
    private static final String KINDS = "rbtfw";
    /** The kinds below this one are for wheels. */
    private static final int FIRST_KIND_WITHOUT_WHEELS = 3;

    private final Reader reader = new Reader();
    private final Checker checker = new Checker();
    private final Printer printer = new Printer();
    private Town town = new Town();
    /** What a text makes of the town; it takes the town's place only when the text is right. */
    private Town draft = new Town();
    private int wrongAt = NONE;

    public StreetGraph() {
    }

    public int sign(long bytes, int n) throws IndexOutOfBoundsException, UnsupportedOperationException {
        if (n < 1 || n > BYTES_A_CALL) {
            throw new IndexOutOfBoundsException("one to eight bytes");
        }
        if (n > reader.room()) {
            throw new UnsupportedOperationException("the tape is full");
        }
        for (int i = n - 1; i >= 0; i--) {
            reader.append((byte) (bytes >> (8 * i)));
        }
        return reader.length;
    }

    public int read() throws IllegalStateException, UnsupportedOperationException {
        draft.copyFrom(town);
        wrongAt = reader.readInto(draft);
        if (wrongAt != NONE) {
            throw new IllegalStateException("the text is wrong");
        }
        if (draft.turns.overfull) {
            throw new UnsupportedOperationException("too many barred turns");
        }
        Town former = town;
        town = draft;
        draft = former;
        return town.pieceCount();
    }

    public int place() {
        return wrongAt;
    }

    public int piece(int number, int what) throws IllegalArgumentException, IndexOutOfBoundsException {
        Piece found = town.find(number);
        if (found == null) {
            throw new IllegalArgumentException("no such piece");
        }
        switch (what) {
            case 0:
                return found.first;
            case 1:
                return found.second;
            case 2:
                return found.length;
            case 3:
                return found.kind;
            case 4:
                return found.oneWay ? 1 : 0;
            case 5:
                return found.height;
            case 6:
                return found.weight;
            case 7:
                return found.area;
            default:
                throw new IndexOutOfBoundsException("no such what");
        }
    }

    public int speed(int number, int hour) throws IllegalArgumentException, IndexOutOfBoundsException {
        Piece found = town.find(number);
        if (found == null) {
            throw new IllegalArgumentException("no such piece");
        }
        if (hour < 0 || hour >= HOURS_A_DAY) {
            throw new IndexOutOfBoundsException("no such hour");
        }
        return found.speedAt(hour);
    }

    public int name(int number, int i) throws IllegalArgumentException, IndexOutOfBoundsException {
        Piece found = town.find(number);
        if (found == null) {
            throw new IllegalArgumentException("no such piece");
        }
        if (i < 0) {
            throw new IndexOutOfBoundsException("below 0");
        }
        return found.letter(i);
    }

    public boolean barred(int a, int b, int c) throws IndexOutOfBoundsException {
        if (!isNode(a) || !isNode(b) || !isNode(c)) {
            throw new IndexOutOfBoundsException("no such node");
        }
        return town.turns.has(a, b, c);
    }

    public int clear() {
        int cleared = town.turns.size;
        town.turns.size = 0;
        return cleared;
    }

    public int spot(int number, boolean station) throws IllegalArgumentException {
        Spots spots = station ? town.stations : town.buildings;
        if (!spots.has(number)) {
            throw new IllegalArgumentException("no such spot");
        }
        return spots.pieceOf[number];
    }

    public int along(int number, boolean station) throws IllegalArgumentException {
        Spots spots = station ? town.stations : town.buildings;
        if (!spots.has(number)) {
            throw new IllegalArgumentException("no such spot");
        }
        return spots.metresOf[number];
    }

    public int check() {
        checker.lookAt(town);
        return checker.size;
    }

    public int fault(int i, int what) throws IllegalArgumentException, IndexOutOfBoundsException {
        if (i < 0 || i >= checker.size) {
            throw new IllegalArgumentException("no such fault");
        }
        if (what != 0 && what != 1) {
            throw new IndexOutOfBoundsException("no such what");
        }
        return what == 0 ? checker.kinds[i] : checker.numbers[i];
    }

    public int print() {
        printer.putTown(town);
        return printer.length;
    }

    public int at(int i) throws IndexOutOfBoundsException {
        if (i < 0) {
            throw new IndexOutOfBoundsException("below 0");
        }
        return i < printer.length ? printer.bytes[i] : NONE;
    }

    public int count(int what) throws IndexOutOfBoundsException {
        switch (what) {
            case 0:
                return town.pieceCount();
            case 1:
                return town.buildings.size();
            case 2:
                return town.stations.size();
            case 3:
                return town.turns.size;
            case 4:
                return Long.bitCount(town.nodes());
            default:
                throw new IndexOutOfBoundsException("no such what");
        }
    }

    private static boolean isNode(int number) {
        return number >= 1 && number <= NODES;
    }

    /** A piece of a street; a reader fills it, and it stays as it is from then on, so towns may share it. */
    private static final class Piece {
        int first;
        int second;
        boolean oneWay;
        int length;
        int kind;
        int ownSpeed;
        int hourCount;
        final int[] fromHour = new int[HOURS_A_PIECE];
        final int[] toHour = new int[HOURS_A_PIECE];
        final int[] hourSpeed = new int[HOURS_A_PIECE];
        int height;
        int weight;
        /** The name's bytes, its last one lowest: eight letters fill it. */
        long letters;
        int letterCount;
        int area = NONE;

        void addHours(int from, int to, int speed) {
            if (hourCount < HOURS_A_PIECE) {
                fromHour[hourCount] = from;
                toHour[hourCount] = to;
                hourSpeed[hourCount] = speed;
                hourCount++;
            }
        }

        int speedAt(int hour) {
            for (int i = 0; i < hourCount; i++) {
                if (fromHour[i] <= hour && hour <= toHour[i]) {
                    return hourSpeed[i];
                }
            }
            return ownSpeed;
        }

        void addLetter(int letter) {
            letters = letters << 8 | letter;
            letterCount++;
        }

        int letter(int i) {
            if (i < 0 || i >= letterCount) {
                return NONE;
            }
            return (int) (letters >> (8 * (letterCount - 1 - i))) & 255;
        }

        boolean isNamedLike(Piece other) {
            return area != NONE && area == other.area && letters == other.letters;
        }

        boolean isForWheels() {
            return kind < FIRST_KIND_WITHOUT_WHEELS;
        }

        boolean leads(int from, int to) {
            return first == from && second == to || !oneWay && second == from && first == to;
        }

        /** Node n is bit n, here and in every set of nodes. */
        long ends() {
            return 1L << first | 1L << second;
        }

        long nodesFromWhichItGoes() {
            return oneWay ? 1L << first : ends();
        }

        long nodesToWhichItGoes() {
            return oneWay ? 1L << second : ends();
        }
    }

    /** Buildings or stations by their numbers; piece 0 means that there is none. */
    private static final class Spots {
        final int[] pieceOf = new int[SPOTS + 1];
        final int[] metresOf = new int[SPOTS + 1];

        boolean has(int number) {
            return number >= 1 && number <= SPOTS && pieceOf[number] != 0;
        }

        void put(int number, int piece, int metres) {
            if (number >= 1 && number <= SPOTS) {
                pieceOf[number] = piece;
                metresOf[number] = metres;
            }
        }

        int size() {
            int found = 0;
            for (int number = 1; number <= SPOTS; number++) {
                if (has(number)) {
                    found++;
                }
            }
            return found;
        }

        void copyFrom(Spots other) {
            for (int number = 1; number <= SPOTS; number++) {
                pieceOf[number] = other.pieceOf[number];
                metresOf[number] = other.metresOf[number];
            }
        }
    }

    /** Barred turns in the order in which they came, each one once. */
    private static final class Turns {
        final int[] from = new int[TURNS];
        final int[] over = new int[TURNS];
        final int[] to = new int[TURNS];
        int size;
        /** Whether one was left out for want of room. */
        boolean overfull;

        boolean has(int a, int b, int c) {
            for (int i = 0; i < size; i++) {
                if (from[i] == a && over[i] == b && to[i] == c) {
                    return true;
                }
            }
            return false;
        }

        void add(int a, int b, int c) {
            if (has(a, b, c)) {
                return;
            }
            if (size >= TURNS) {
                overfull = true;
                return;
            }
            from[size] = a;
            over[size] = b;
            to[size] = c;
            size++;
        }

        void copyFrom(Turns other) {
            size = other.size;
            overfull = false;
            for (int i = 0; i < size; i++) {
                from[i] = other.from[i];
                over[i] = other.over[i];
                to[i] = other.to[i];
            }
        }
    }

    private static final class Town {
        final Piece[] pieces = new Piece[PIECES + 1];
        final Spots buildings = new Spots();
        final Spots stations = new Spots();
        final Turns turns = new Turns();

        /** The piece of this number, null when there is none such. */
        Piece find(int number) {
            return number >= 1 && number <= PIECES ? pieces[number] : null;
        }

        void put(int number, Piece given) {
            if (number >= 1 && number <= PIECES) {
                pieces[number] = given;
            }
        }

        int pieceCount() {
            int found = 0;
            for (int number = 1; number <= PIECES; number++) {
                if (pieces[number] != null) {
                    found++;
                }
            }
            return found;
        }

        long nodes() {
            long nodes = 0;
            for (int number = 1; number <= PIECES; number++) {
                Piece one = pieces[number];
                if (one != null) {
                    nodes |= one.ends();
                }
            }
            return nodes;
        }

        boolean leads(int from, int to) {
            for (int number = 1; number <= PIECES; number++) {
                Piece one = pieces[number];
                if (one != null && one.leads(from, to)) {
                    return true;
                }
            }
            return false;
        }

        void copyFrom(Town other) {
            for (int number = 1; number <= PIECES; number++) {
                pieces[number] = other.pieces[number];
            }
            buildings.copyFrom(other.buildings);
            stations.copyFrom(other.stations);
            turns.copyFrom(other.turns);
        }
    }

    /**
     * The tape and the way along it. A method that reads a part of a row leaves the position behind
     * that part; where the text is wrong it answers false (or NONE) and leaves it at the wrong byte.
     */
    private static final class Reader {
        final byte[] tape = new byte[TAPE];
        int length;
        int position;

        int room() {
            return TAPE - length;
        }

        void append(byte given) {
            if (length < TAPE) {
                tape[length] = given;
                length++;
            }
        }

        /** Uses the tape up; answers where it was wrong, NONE when it was right. */
        int readInto(Town town) {
            position = 0;
            boolean right = true;
            // Every row has a byte at least, so there are no more rows than bytes.
            for (int row = 0; row < TAPE && right && peek() != NONE; row++) {
                right = readRow(town) && take(';');
            }
            length = 0;
            return right ? NONE : position;
        }

        boolean readRow(Town town) {
            switch (peek()) {
                case 'p':
                    position++;
                    return readPiece(town);
                case 'x':
                    position++;
                    return readTurn(town.turns);
                case 'h':
                    position++;
                    return readSpot(town.buildings);
                case 's':
                    position++;
                    return readSpot(town.stations);
                case 'g':
                    position++;
                    return readGone(town);
                default:
                    return false;
            }
        }

        boolean readPiece(Town town) {
            int number = readNumber(1, PIECES);
            if (number == NONE || !take('=')) {
                return false;
            }
            Piece made = new Piece();
            if (!readNodes(made) || !readLengthKindSpeed(made) || !readHours(made)
                    || !readLimits(made) || !readNameAndArea(made)) {
                return false;
            }
            town.put(number, made);
            return true;
        }

        boolean readNodes(Piece made) {
            made.first = readNumber(1, NODES);
            if (made.first == NONE) {
                return false;
            }
            made.oneWay = peek() == '>';
            if (!take(made.oneWay ? '>' : '-')) {
                return false;
            }
            made.second = readNumber(1, NODES);
            if (made.second == made.first) {
                position--;
                return false;
            }
            return made.second != NONE;
        }

        boolean readLengthKindSpeed(Piece made) {
            if (!take(':')) {
                return false;
            }
            made.length = readNumber(1, MOST_METRES);
            if (made.length == NONE) {
                return false;
            }
            made.kind = kindOf(peek());
            if (made.kind == NONE) {
                return false;
            }
            position++;
            made.ownSpeed = readNumber(1, MOST_SPEED);
            return made.ownSpeed != NONE;
        }

        static int kindOf(int sign) {
            for (int kind = 0; kind < KINDS.length(); kind++) {
                if (KINDS.charAt(kind) == sign) {
                    return kind;
                }
            }
            return NONE;
        }

        boolean readHours(Piece made) {
            for (int i = 0; i < HOURS_A_PIECE && peek() == '['; i++) {
                position++;
                int from = readNumber(0, HOURS_A_DAY - 1);
                if (from == NONE || !take('-')) {
                    return false;
                }
                int to = readNumber(from, HOURS_A_DAY - 1);
                if (to == NONE || !take(':')) {
                    return false;
                }
                int speed = readNumber(1, MOST_SPEED);
                if (speed == NONE || !take(']')) {
                    return false;
                }
                made.addHours(from, to, speed);
            }
            return true;
        }

        boolean readLimits(Piece made) {
            if (peek() == '^') {
                position++;
                made.height = readNumber(1, MOST_LIMIT);
                if (made.height == NONE) {
                    return false;
                }
            }
            if (peek() == '!') {
                position++;
                made.weight = readNumber(1, MOST_LIMIT);
            }
            return made.weight != NONE;
        }

        boolean readNameAndArea(Piece made) {
            if (peek() != '"') {
                return true;
            }
            position++;
            // No blank may stand between the two quotes: the bytes are looked at as they come.
            for (int i = 0; i < LETTERS && isLetterHere(); i++) {
                made.addLetter(tape[position]);
                position++;
            }
            if (made.letterCount == 0 || position >= length || tape[position] != '"') {
                return false;
            }
            position++;
            if (!take('#')) {
                return false;
            }
            made.area = readNumber(0, MOST_AREA);
            return made.area != NONE;
        }

        boolean readTurn(Turns turns) {
            int a = readNumber(1, NODES);
            if (a == NONE || !take('-')) {
                return false;
            }
            int b = readNumber(1, NODES);
            if (b == NONE || !take('-')) {
                return false;
            }
            int c = readNumber(1, NODES);
            if (c == NONE) {
                return false;
            }
            turns.add(a, b, c);
            return true;
        }

        boolean readSpot(Spots spots) {
            int number = readNumber(1, SPOTS);
            if (number == NONE || !take('@')) {
                return false;
            }
            int piece = readNumber(1, PIECES);
            if (piece == NONE || !take('+')) {
                return false;
            }
            int metres = readNumber(0, MOST_METRES);
            if (metres == NONE) {
                return false;
            }
            spots.put(number, piece, metres);
            return true;
        }

        boolean readGone(Town town) {
            int which = peek();
            if (which != 'p' && which != 'h' && which != 's') {
                return false;
            }
            position++;
            int number = readNumber(1, which == 'p' ? PIECES : SPOTS);
            if (number == NONE) {
                return false;
            }
            if (which == 'p') {
                town.put(number, null);
            } else if (which == 'h') {
                town.buildings.put(number, 0, 0);
            } else {
                town.stations.put(number, 0, 0);
            }
            return true;
        }

        /**
         * A number from low to high, low not below 0. A 0 in front ends the number, since none goes on
         * behind it; a number out of the range is wrong at its last digit, a fifth digit at itself.
         */
        int readNumber(int low, int high) {
            skipBlanks();
            int value = 0;
            int digits = 0;
            while (digits < DIGITS && isDigitHere() && (digits == 0 || value != 0)) {
                value = 10 * value + (tape[position] - '0');
                digits++;
                position++;
            }
            if (digits == 0 || digits == DIGITS && isDigitHere()) {
                return NONE;
            }
            if (value < low || value > high) {
                position--;
                return NONE;
            }
            return value;
        }

        boolean isDigitHere() {
            return position < length && tape[position] >= '0' && tape[position] <= '9';
        }

        boolean isLetterHere() {
            return position < length && tape[position] >= 'a' && tape[position] <= 'z';
        }

        boolean take(int wanted) {
            skipBlanks();
            if (position >= length || tape[position] != wanted) {
                return false;
            }
            position++;
            return true;
        }

        /** The next sign, behind blanks; NONE at the end. */
        int peek() {
            skipBlanks();
            return position < length ? tape[position] & 255 : NONE;
        }

        void skipBlanks() {
            while (position < length && tape[position] == ' ') {
                position++;
            }
        }
    }

    /** The faults of the town that was looked at last, by kinds, then by numbers. */
    private static final class Checker {
        /** At most one for a building, a station, a named piece, a turn, a wall, an end, a station. */
        static final int MOST = 3 * SPOTS + PIECES + TURNS + 2 * NODES;
        final int[] kinds = new int[MOST];
        final int[] numbers = new int[MOST];
        int size;

        void lookAt(Town town) {
            size = 0;
            findLostSpots(town, town.buildings, 1);
            findLostSpots(town, town.stations, 2);
            findSameNames(town);
            findIdleTurns(town);
            findWalls(town.turns);
            findEnds(town);
            findUnreachedStations(town);
        }

        void add(int kind, int number) {
            if (size < MOST) {
                kinds[size] = kind;
                numbers[size] = number;
                size++;
            }
        }

        void findLostSpots(Town town, Spots spots, int kind) {
            for (int number = 1; number <= SPOTS; number++) {
                if (spots.has(number)) {
                    Piece under = town.find(spots.pieceOf[number]);
                    if (under == null || spots.metresOf[number] > under.length) {
                        add(kind, number);
                    }
                }
            }
        }

        void findSameNames(Town town) {
            for (int number = 2; number <= PIECES; number++) {
                if (hasNameOfLower(town, number)) {
                    add(3, number);
                }
            }
        }

        boolean hasNameOfLower(Town town, int number) {
            Piece one = town.find(number);
            if (one == null) {
                return false;
            }
            for (int lower = 1; lower < number; lower++) {
                Piece other = town.find(lower);
                if (other != null && one.isNamedLike(other)) {
                    return true;
                }
            }
            return false;
        }

        void findIdleTurns(Town town) {
            Turns turns = town.turns;
            for (int node = 1; node <= NODES; node++) {
                for (int i = 0; i < turns.size; i++) {
                    if (turns.over[i] == node
                            && !(town.leads(turns.from[i], node) && town.leads(node, turns.to[i]))) {
                        add(4, node);
                    }
                }
            }
        }

        void findWalls(Turns turns) {
            for (int node = 1; node <= NODES; node++) {
                if (isWall(turns, node)) {
                    add(5, node);
                }
            }
        }

        boolean isWall(Turns turns, int node) {
            for (int i = 0; i < turns.size; i++) {
                if (turns.over[i] == node && turns.from[i] != turns.to[i]
                        && turns.has(turns.to[i], node, turns.from[i])) {
                    return true;
                }
            }
            return false;
        }

        void findEnds(Town town) {
            long entered = 0;
            long left = 0;
            for (int number = 1; number <= PIECES; number++) {
                Piece one = town.find(number);
                if (one != null) {
                    entered |= one.nodesToWhichItGoes();
                    left |= one.nodesFromWhichItGoes();
                }
            }
            long ending = entered & ~left;
            for (int node = 1; node <= NODES; node++) {
                if ((ending >> node & 1) != 0) {
                    add(6, node);
                }
            }
        }

        void findUnreachedStations(Town town) {
            Piece start = null;
            long reached = 0;
            for (int number = 1; number <= SPOTS; number++) {
                Piece under = town.find(town.stations.pieceOf[number]);
                if (under != null) {
                    if (start == null) {
                        start = under;
                        reached = nodesReachedFrom(town, start.ends());
                    }
                    // The start's own ends are reached, so its piece needs no case of its own.
                    if (!under.isForWheels() || (under.ends() & reached) == 0) {
                        add(7, number);
                    }
                }
            }
        }

        /** The nodes to which one comes from these over pieces for wheels, these among them. */
        long nodesReachedFrom(Town town, long nodes) {
            long reached = nodes;
            for (int round = 0; round < NODES; round++) {
                long before = reached;
                for (int number = 1; number <= PIECES; number++) {
                    Piece one = town.find(number);
                    if (one != null && one.isForWheels() && (one.nodesFromWhichItGoes() & reached) != 0) {
                        reached |= one.nodesToWhichItGoes();
                    }
                }
                if (reached == before) {
                    break;
                }
            }
            return reached;
        }
    }

    /** The bytes of the town that was printed last. */
    private static final class Printer {
        /** As long as p60=40-39:9999r99, three times [10-23:99], ^99!99"zzzzzzzz"#9; are together. */
        static final int LONGEST_PIECE = 66;
        /** As long as h30@60+9999; is. */
        static final int LONGEST_SPOT = 12;
        /** As long as x40-40-40; is. */
        static final int LONGEST_TURN = 10;
        static final int MOST = PIECES * LONGEST_PIECE + 2 * SPOTS * LONGEST_SPOT + TURNS * LONGEST_TURN;
        final byte[] bytes = new byte[MOST];
        int length;

        void putTown(Town town) {
            length = 0;
            for (int number = 1; number <= PIECES; number++) {
                Piece one = town.find(number);
                if (one != null) {
                    putPiece(number, one);
                }
            }
            putSpots('h', town.buildings);
            putSpots('s', town.stations);
            putTurns(town.turns);
        }

        void putPiece(int number, Piece one) {
            putWithNumber('p', number);
            putWithNumber('=', one.first);
            putWithNumber(one.oneWay ? '>' : '-', one.second);
            putWithNumber(':', one.length);
            putWithNumber(signOf(one.kind), one.ownSpeed);
            for (int i = 0; i < one.hourCount && i < HOURS_A_PIECE; i++) {
                putWithNumber('[', one.fromHour[i]);
                putWithNumber('-', one.toHour[i]);
                putWithNumber(':', one.hourSpeed[i]);
                put(']');
            }
            if (one.height != 0) {
                putWithNumber('^', one.height);
            }
            if (one.weight != 0) {
                putWithNumber('!', one.weight);
            }
            if (one.area != NONE) {
                putNameAndArea(one);
            }
            put(';');
        }

        static int signOf(int kind) {
            return kind >= 0 && kind < KINDS.length() ? KINDS.charAt(kind) : '?';
        }

        void putNameAndArea(Piece one) {
            put('"');
            for (int i = 0; i < one.letterCount; i++) {
                put(one.letter(i));
            }
            put('"');
            putWithNumber('#', one.area);
        }

        void putSpots(int sign, Spots spots) {
            for (int number = 1; number <= SPOTS; number++) {
                if (spots.has(number)) {
                    putWithNumber(sign, number);
                    putWithNumber('@', spots.pieceOf[number]);
                    putWithNumber('+', spots.metresOf[number]);
                    put(';');
                }
            }
        }

        void putTurns(Turns turns) {
            for (int i = 0; i < turns.size; i++) {
                putWithNumber('x', turns.from[i]);
                putWithNumber('-', turns.over[i]);
                putWithNumber('-', turns.to[i]);
                put(';');
            }
        }

        /** A sign and the digits of a number of at most four digits behind it. */
        void putWithNumber(int sign, int number) {
            put(sign);
            if (number >= 1000) {
                put('0' + number / 1000);
            }
            if (number >= 100) {
                put('0' + number / 100 % 10);
            }
            if (number >= 10) {
                put('0' + number / 10 % 10);
            }
            put('0' + number % 10);
        }

        void put(int sign) {
            if (length < MOST) {
                bytes[length] = (byte) sign;
                length++;
            }
        }
    }
}
