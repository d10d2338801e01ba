import java.util.Arrays;

/** Flags of a squadron; the document ../shared/DOC.md tells what each call promises. */
public final class SquadronFlags {

    public static final int NONE = -1;

    private static final int SHIPS = 10;
    private static final int MINUTES = 1000;
    private static final int FLAGS = 26;
    private static final int REPEATERS = 3;
    private static final int MOST_ALIKE = 3;
    private static final int MOST_DIM = 18;
    private static final int TAPE_BYTES = 700;
    private static final int FED_BYTES = 20;
    private static final int MOST_ACTS = 200;
    private static final int MOST_SENSES = 40;
    private static final int MOST_OF_ONE_NAME = 6;
    private static final int NAME_LETTERS = 6;
    private static final int MESSAGE_NAMES = 12;
    private static final int ROW = 4;
    private static final int MANY = 100;
    private static final int LATEST_LINE = 700;
    private static final int BOOK_REFUSED = -2;

    private final Tape tape;
    private final Squadron squadron;
    private final BookReader reader;
    private final Acts acts;
    private final Readings readings;
    private final Sender sender;
    private final Relay relay;
    private final OtherSide otherSide;
    private final int[] scanned;
    private final int[] messageNames;
    private int messageLength;
    private final int[] sentHoists;
    private int sentCount;

    public SquadronFlags() {
        tape = new Tape();
        squadron = new Squadron();
        reader = new BookReader(tape);
        acts = new Acts();
        readings = new Readings(squadron);
        sender = new Sender(squadron, readings);
        relay = new Relay(squadron, readings, sender);
        otherSide = new OtherSide(acts, readings);
        scanned = new int[MESSAGE_NAMES];
        messageNames = new int[MESSAGE_NAMES];
        sentHoists = new int[MESSAGE_NAMES];
    }

    public int feed(int a, int b, int c, int d, int e) {
        if (tape.length > TAPE_BYTES - FED_BYTES) {
            return NONE;
        }
        tape.put(a);
        tape.put(b);
        tape.put(c);
        tape.put(d);
        tape.put(e);
        return tape.length;
    }

    public boolean end(int n) {
        if (n < 0 || n > tape.length) {
            return false;
        }
        tape.length = n;
        return true;
    }

    // ---- flags

    public boolean locker(int ship, int lacks, int repeaters) {
        if (!isShip(ship) || lacks < 0 || lacks >= 1 << FLAGS || repeaters < 0 || repeaters > REPEATERS) {
            return false;
        }
        squadron.lacks[ship] = lacks;
        squadron.repeaters[ship] = repeaters;
        return true;
    }

    public boolean like(int flag, int other, int dim) {
        if (!isFlag(flag) || !isFlag(other) || flag == other || dim < 0 || dim > MOST_DIM) {
            return false;
        }
        return squadron.makeAlike(flag, other, dim);
    }

    public boolean haze(int minute, int n) {
        if (!isMinute(minute) || n < 0 || n > 9) {
            return false;
        }
        squadron.tellHaze(minute, n);
        return true;
    }

    public boolean far(int ship, int n) {
        if (!hasNext(ship) || n < 0 || n > 9) {
            return false;
        }
        squadron.farness[ship] = n;
        return true;
    }

    public int dim(int ship, int minute) {
        return hasNext(ship) && isMinute(minute) ? squadron.dimAt(ship, minute) : NONE;
    }

    public int hoist(int ship, int letters) {
        return isShip(ship) && isLetters(letters) ? squadron.hoistFor(ship, letters) : NONE;
    }

    public int tells(int hoist) {
        return toldBy(hoist);
    }

    // ---- the book

    public int book() {
        if (acts.count >= MOST_ACTS) {
            tape.length = 0;
            return BOOK_REFUSED;
        }
        Book book = reader.makeBook();
        tape.length = 0;
        return book == null ? NONE : acts.addBook(book);
    }

    public int fault(int what) {
        if (what == 0) {
            return reader.fault;
        }
        return what == 1 ? reader.faultPlace : NONE;
    }

    public int senses() {
        Book book = knownBook();
        return book == null ? NONE : book.count;
    }

    public int letter(int sense, boolean code, int k) {
        Book book = knownBook();
        if (book == null || sense < 0 || sense >= book.count || k < 0 || k >= NAME_LETTERS) {
            return NONE;
        }
        int word = code ? book.codes[sense] : book.names[sense];
        int length = wordLength(word);
        return k < length ? signAt(word, length, k) : 0;
    }

    public int holds(int sense, int ship, int minute) {
        Book book = knownBook();
        if (book == null || sense < 0 || sense >= book.count || !isShip(ship) || !isMinute(minute)) {
            return NONE;
        }
        readings.prepare(book, ship, minute);
        return readings.inForce(sense) ? 1 : 0;
    }

    public int read(int letters, int ship, int minute) {
        Book book = knownBook();
        if (book == null || !isLetters(letters) || !isShip(ship) || !isMinute(minute)) {
            return NONE;
        }
        readings.prepare(book, ship, minute);
        readings.begin(MANY);
        readings.gather(letters);
        return readings.found;
    }

    // ---- messages

    public int message() {
        Book book = knownBook();
        int names = book == null ? NONE : scanNames(book);
        tape.length = 0;
        if (names == NONE) {
            return NONE;
        }
        System.arraycopy(scanned, 0, messageNames, 0, MESSAGE_NAMES);
        messageLength = names;
        return names;
    }

    public int send(int ship, int minute) {
        Book book = knownBook();
        if (book == null || !isShip(ship) || !isMinute(minute) || !addressMessage(book)) {
            return NONE;
        }
        int hoists = sender.plan(book, ship, minute);
        if (hoists == NONE) {
            return NONE;
        }
        sentCount = sender.copyHoists(sentHoists, 0);
        return hoists;
    }

    public int sent(int k) {
        return k >= 0 && k < sentCount && k < sentHoists.length ? sentHoists[k] : NONE;
    }

    public int may(int hoist, int dim, int ship, int minute) {
        Book book = knownBook();
        if (book == null || toldBy(hoist) == NONE || dim < 0 || dim > MOST_DIM || !isShip(ship) || !isMinute(minute)) {
            return NONE;
        }
        readings.prepare(book, ship, minute);
        readings.begin(MANY);
        readings.gatherSeen(hoist, dim);
        return readings.found;
    }

    // ---- the line

    public int line(int last, int minute) {
        Book book = knownBook();
        if (book == null || last < 1 || last >= SHIPS || minute < 0 || minute > LATEST_LINE || !addressMessage(book)) {
            return NONE;
        }
        if (sender.plan(book, 0, minute) == NONE) {
            return NONE;
        }
        relay.start(last);
        relay.pass(book, minute);
        return relay.namesRead[last];
    }

    public int along(int ship, int what) {
        if (ship < 0 || ship > relay.last || ship >= SHIPS) {
            return NONE;
        }
        switch (what) {
            case 0:
                return relay.namesRead[ship];
            case 1:
                return relay.latestRead[ship];
            case 2:
                return relay.hoistsRead[ship];
            case 3:
                return relay.lost[ship] ? 1 : 0;
            default:
                return NONE;
        }
    }

    public int heard(int k) {
        return k >= 0 && k < relay.heardCount && k < relay.heardNames.length ? relay.heardNames[k] : NONE;
    }

    // ---- acts, the other side

    public int flown(int ship, int minute, int hoist) {
        if (!isShip(ship) || !isMinute(minute) || toldBy(hoist) == NONE || acts.count >= MOST_ACTS) {
            return NONE;
        }
        return acts.addFlown(ship, minute, hoist);
    }

    public int annul(int act) {
        if (!acts.canBeVoid(act) || acts.count >= MOST_ACTS) {
            return NONE;
        }
        return acts.addVoid(act);
    }

    public boolean as(int act) {
        if (act < NONE || act > acts.count) {
            return false;
        }
        acts.toldAs = act;
        return true;
    }

    public int taken(int act, int book) {
        if (!acts.isFlownKnown(act, acts.knownAt()) || book < 0 || book > acts.count) {
            return NONE;
        }
        return otherSide.understands(act, knownBook(), acts.bookAt(book));
    }

    public int change(int book) {
        if (book < 0 || book > acts.count) {
            return NONE;
        }
        return otherSide.findChange(knownBook(), acts.bookAt(book));
    }

    public int changed(int k) {
        return k >= 0 && k < otherSide.changeCount && k < otherSide.changes.length ? otherSide.changes[k] : NONE;
    }

    public int all(int what) {
        switch (what) {
            case 0:
                return acts.count;
            case 1:
                return acts.knownAt();
            case 2:
                return messageLength;
            case 3:
                return acts.countFlown();
            default:
                return NONE;
        }
    }

    private Book knownBook() {
        return acts.bookAt(acts.knownAt());
    }

    /** How many NAMES the tape has, put in scanned; NONE when it is no MESSAGE. */
    private int scanNames(Book book) {
        int names = 0;
        int stop = 0;
        for (int at = 0; at < tape.length; at++) {
            if (at < stop || isBlank(tape.at(at))) {
                continue;
            }
            stop = tape.wordEnd(at);
            int name = tape.word(at, stop);
            if (name == 0 || book.idOf(name) == NONE || names >= MESSAGE_NAMES) {
                return NONE;
            }
            scanned[names] = name;
            names++;
        }
        return names == 0 ? NONE : names;
    }

    /** Lays the MESSAGE before the sender; false when there is none, or a NAME of it is none in this BOOK. */
    private boolean addressMessage(Book book) {
        sender.clear();
        for (int i = 0; i < messageLength && i < MESSAGE_NAMES; i++) {
            int id = book.idOf(messageNames[i]);
            if (id == NONE) {
                return false;
            }
            sender.add(id);
        }
        return messageLength > 0;
    }

    private static boolean isShip(int ship) {
        return ship >= 0 && ship < SHIPS;
    }

    private static boolean hasNext(int ship) {
        return ship >= 0 && ship < SHIPS - 1;
    }

    private static boolean isMinute(int minute) {
        return minute >= 0 && minute < MINUTES;
    }

    private static boolean isFlag(int flag) {
        return flag >= 0 && flag < FLAGS;
    }

    private static boolean isBlank(int b) {
        return b == 10 || b == 32;
    }

    // Rows of letters, HOISTS and words are numbers of five bits a sign, the first sign the highest.

    /** How many signs a word of 1 to 6 has; 0 for none. */
    private static int wordLength(int word) {
        int length = 0;
        for (int rest = word; rest > 0 && length < NAME_LETTERS; rest >>= 5) {
            length++;
        }
        return length;
    }

    /** How many signs a row has; 0 when there are none or more than 4. */
    private static int rowLength(int row) {
        if (row <= 0 || row >= 1 << 20) {
            return 0;
        }
        if (row < 1 << 10) {
            return row < 1 << 5 ? 1 : 2;
        }
        return row < 1 << 15 ? 3 : 4;
    }

    private static int signAt(int row, int length, int k) {
        return row >> 5 * (length - 1 - k) & 31;
    }

    private static boolean isLetters(int row) {
        int length = rowLength(row);
        for (int k = 0; k < length; k++) {
            int sign = signAt(row, length, k);
            if (sign < 1 || sign > FLAGS) {
                return false;
            }
        }
        return length > 0;
    }

    /** The row of letters that a HOIST TELLS; NONE when it is no HOIST. */
    private static int toldBy(int hoist) {
        int length = rowLength(hoist);
        int aloft = 0;
        int letters = 0;
        for (int k = 0; k < length; k++) {
            int sign = signAt(hoist, length, k);
            int letter = sign <= FLAGS ? sign : repeated(letters, k, sign - FLAGS);
            if (letter < 1 || (aloft >> sign & 1) != 0) {
                return NONE;
            }
            aloft |= 1 << sign;
            letters = letters << 5 | letter;
        }
        return length > 0 ? letters : NONE;
    }

    /** The letter that a REPEATER below so many signs repeats; 0 when it can't. */
    private static int repeated(int letters, int above, int repeater) {
        return repeater <= REPEATERS && repeater <= above ? signAt(letters, above, repeater - 1) : 0;
    }

    /** The bytes fed and not yet used. */
    private static final class Tape {
        private final byte[] bytes = new byte[TAPE_BYTES];
        private int length;

        void put(int number) {
            for (int shift = 24; shift >= 0; shift -= 8) {
                if (length < bytes.length) {
                    bytes[length] = (byte) (number >>> shift);
                    length++;
                }
            }
        }

        /** The byte at a place; NONE beyond the text. */
        int at(int place) {
            return place >= 0 && place < length && place < bytes.length ? bytes[place] & 255 : NONE;
        }

        boolean letterAt(int place) {
            int b = at(place);
            return b >= 'a' && b <= 'z';
        }

        boolean digitAt(int place) {
            int b = at(place);
            return b >= '0' && b <= '9';
        }

        int wordEnd(int from) {
            int end = from;
            for (int i = from; i < length && letterAt(i); i++) {
                end = i + 1;
            }
            return end;
        }

        int numberEnd(int from) {
            int end = from;
            for (int i = from; i < length && digitAt(i); i++) {
                end = i + 1;
            }
            return end;
        }

        /** The letters as one number; 0 when there are none, or more than a NAME may have. */
        int word(int from, int to) {
            if (to - from > NAME_LETTERS) {
                return 0;
            }
            int word = 0;
            for (int i = from; i < to; i++) {
                word = word << 5 | at(i) - 'a' + 1;
            }
            return word;
        }

        int number(int from, int to) {
            int number = 0;
            for (int i = from; i < to; i++) {
                number = number * 10 + at(i) - '0';
            }
            return number;
        }
    }

    /** LOCKERS, what is LIKE what, and the weather between the SHIPS. */
    private static final class Squadron {
        private final int[] lacks = new int[SHIPS];
        private final int[] repeaters = new int[SHIPS];
        private final int[] farness = new int[SHIPS];
        private final int[] alikeFrom = new int[FLAGS * FLAGS];

        // Of each minute twice the HAZE, and 1 more where it was told.
        private final int[] hazes = new int[MINUTES];

        Squadron() {
            Arrays.fill(repeaters, REPEATERS);
        }

        boolean makeAlike(int flag, int other, int dim) {
            int one = flag * FLAGS + other;
            int two = other * FLAGS + flag;
            boolean more = dim > 0 && alikeFrom[one] == 0;
            if (more && (countAlike(flag) >= MOST_ALIKE || countAlike(other) >= MOST_ALIKE)) {
                return false;
            }
            alikeFrom[one] = dim;
            alikeFrom[two] = dim;
            return true;
        }

        private int countAlike(int flag) {
            int count = 0;
            for (int other = 0; other < FLAGS; other++) {
                if (alikeFrom[flag * FLAGS + other] > 0) {
                    count++;
                }
            }
            return count;
        }

        boolean alike(int flag, int other, int dim) {
            int from = alikeFrom[flag * FLAGS + other];
            return from > 0 && from <= dim;
        }

        void tellHaze(int minute, int n) {
            hazes[minute] = 2 * n + 1;
            for (int m = minute + 1; m < MINUTES && (hazes[m] & 1) == 0; m++) {
                hazes[m] = 2 * n;
            }
        }

        int hazeAt(int minute) {
            return minute >= 0 && minute < MINUTES ? hazes[minute] >> 1 : 0;
        }

        int dimAt(int ship, int minute) {
            return farness[ship] + hazeAt(minute);
        }

        /** A SHIP's HOIST for a row of letters; NONE when it can't. */
        int hoistFor(int ship, int letters) {
            int length = rowLength(letters);
            int aloft = 0;
            int hoist = 0;
            for (int k = 0; k < length; k++) {
                int sign = signAt(letters, length, k);
                if (((aloft >> sign | lacks[ship] >> sign - 1) & 1) != 0) {
                    sign = repeaterFor(ship, letters >> 5 * (length - 1 - k), k, aloft);
                }
                if (sign == NONE) {
                    return NONE;
                }
                aloft |= 1 << sign;
                hoist = hoist << 5 | sign;
            }
            return length > 0 ? hoist : NONE;
        }

        /** The least REPEATER free to stand below so many signs for the last of these letters. */
        private int repeaterFor(int ship, int letters, int above, int aloft) {
            for (int r = 1; r <= repeaters[ship] && r <= above; r++) {
                boolean free = (aloft >> FLAGS + r & 1) == 0;
                if (free && signAt(letters, above + 1, r - 1) == (letters & 31)) {
                    return FLAGS + r;
                }
            }
            return NONE;
        }
    }

    /** A BOOK that was told: its SENSES, each TEST as a stretch of the program. */
    private static final class Book {
        private final int count;
        private final int[] names;
        private final int[] codes;
        private final int[] codeLengths;
        private final int[] ids;
        private final int[] testEnds;
        private final int[] program;

        Book(int senses, int[] senseNames, int[] senseCodes, int[] ends, int[] tests, int testLength) {
            count = senses;
            names = Arrays.copyOf(senseNames, senses);
            codes = Arrays.copyOf(senseCodes, senses);
            testEnds = Arrays.copyOf(ends, senses);
            program = Arrays.copyOf(tests, testLength);
            codeLengths = new int[senses];
            ids = new int[senses];
            for (int s = 0; s < senses; s++) {
                codeLengths[s] = rowLength(codes[s]);
                ids[s] = idOf(names[s]);
            }
        }

        /** The first SENSE that has this NAME stands for the NAME; NONE when none has it. */
        int idOf(int name) {
            for (int s = 0; s < count; s++) {
                if (names[s] == name) {
                    return s;
                }
            }
            return NONE;
        }

        int testStart(int sense) {
            return sense > 0 && sense <= count ? testEnds[sense - 1] : 0;
        }
    }

    /** The text of the tape, cut in tokens. */
    private static final class Tokens {
        private static final int END = 0;
        private static final int WORD = 1;
        private static final int NUMBER = 2;
        private static final int CODE = 3;
        private static final int SIGN = 4;
        private static final int RUN_TOGETHER = 5;

        private static final int NUMBER_DIGITS = 4;

        // A token is one number: its kind, its start and its stop (ten bits each), its value (thirty bits).
        private final Tape tape;
        private final long[] packed = new long[TAPE_BYTES + 1];
        private int count;
        private int kindBefore;
        private int stopBefore;

        Tokens(Tape bytes) {
            tape = bytes;
        }

        void cut() {
            count = 0;
            kindBefore = END;
            stopBefore = 0;
            for (int at = 0; at < tape.length; at++) {
                if (at >= stopBefore && !isBlank(tape.at(at))) {
                    cutOne(at);
                }
            }
            add(END, tape.length, tape.length, 0);
        }

        private void cutOne(int start) {
            int wordEnd = tape.wordEnd(start);
            int numberEnd = tape.numberEnd(start);
            if (wordEnd > start) {
                add(WORD, start, wordEnd, tape.word(start, wordEnd));
            } else if (numberEnd > start) {
                add(NUMBER, start, numberEnd, tape.number(start, Math.min(numberEnd, start + NUMBER_DIGITS)));
            } else if (tape.at(start) == '.') {
                int codeEnd = tape.wordEnd(start + 1);
                add(CODE, start, codeEnd, tape.word(start + 1, codeEnd));
            } else {
                add(SIGN, start, start + 1, tape.at(start));
            }
        }

        private void add(int kind, int start, int stop, int value) {
            boolean runs = isWordy(kind) && isWordy(kindBefore) && stopBefore == start;
            kindBefore = runs ? RUN_TOGETHER : kind;
            stopBefore = stop;
            if (count < packed.length) {
                packed[count] = ((long) kindBefore << 10 | start) << 10 | stop;
                packed[count] = packed[count] << 30 | value;
                count++;
            }
        }

        private static boolean isWordy(int kind) {
            return kind == WORD || kind == NUMBER;
        }
    }

    /** Reads the text of a BOOK, token by token, up to its first FAULT. */
    private static final class BookReader {
        private static final int WRONG_BYTE = 1;
        private static final int NAME_TOO_OFTEN = 2;
        private static final int TOO_DEEP = 3;
        private static final int TOO_MANY = 4;

        private static final int MOST_OPEN = 6;

        // The OWN WORDS, each as Tape.word() packs it.
        private static final int SENSE = (((19 << 5 | 5) << 5 | 14) << 5 | 19) << 5 | 5;
        private static final int IS = 9 << 5 | 19;
        private static final int FOR = (6 << 5 | 15) << 5 | 18;
        private static final int OR = 15 << 5 | 18;
        private static final int AND = (1 << 5 | 14) << 5 | 4;
        private static final int NOT = (14 << 5 | 15) << 5 | 20;
        private static final int ALL = (1 << 5 | 12) << 5 | 12;
        private static final int SHIP = ((19 << 5 | 8) << 5 | 9) << 5 | 16;
        private static final int HOUR = ((8 << 5 | 15) << 5 | 21) << 5 | 18;
        private static final int MINUTE = ((((13 << 5 | 9) << 5 | 14) << 5 | 21) << 5 | 20) << 5 | 5;
        private static final int HAZE = ((8 << 5 | 1) << 5 | 26) << 5 | 5;

        private final Tokens tokens;
        private int next;

        // The token that is to be read.
        private int kind;
        private int start;
        private int stop;
        private int value;

        private int fault;
        private int faultPlace = NONE;
        private int count;
        private final int[] names = new int[MOST_SENSES];
        private final int[] codes = new int[MOST_SENSES];
        private final int[] testEnds = new int[MOST_SENSES];
        private final int[] program = new int[TAPE_BYTES];
        private int programLength;

        BookReader(Tape tape) {
            tokens = new Tokens(tape);
        }

        /** The BOOK on the tape; null with a FAULT. */
        Book makeBook() {
            fault = 0;
            faultPlace = NONE;
            count = 0;
            programLength = 0;
            tokens.cut();
            next = 0;
            advance();
            for (int n = 0; n <= MOST_SENSES && kind != Tokens.END; n++) {
                if (n == MOST_SENSES) {
                    blame(TOO_MANY, start);
                    return null;
                }
                if (!statement()) {
                    return null;
                }
            }
            return new Book(count, names, codes, testEnds, program, programLength);
        }

        private boolean statement() {
            if (!takeWord(SENSE) || !takeName() || !takeWord(IS) || !takeCode()) {
                return false;
            }
            if (isWord(FOR)) {
                advance();
                if (!test(0)) {
                    return false;
                }
            }
            if (!takeSign(';') || count >= MOST_SENSES) {
                return false;
            }
            testEnds[count] = programLength;
            count++;
            return true;
        }

        private boolean takeName() {
            if (kind != Tokens.WORD || isOwnWord(value)) {
                return blame(WRONG_BYTE, start);
            }
            if (stop - start > NAME_LETTERS) {
                return blame(WRONG_BYTE, start + NAME_LETTERS);
            }
            int same = 0;
            for (int s = 0; s < count && s < MOST_SENSES; s++) {
                if (names[s] == value) {
                    same++;
                }
            }
            if (same >= MOST_OF_ONE_NAME) {
                return blame(NAME_TOO_OFTEN, start);
            }
            if (count < MOST_SENSES) {
                names[count] = value;
            }
            advance();
            return true;
        }

        private boolean takeCode() {
            int letters = stop - start - 1;
            if (kind != Tokens.CODE) {
                return blame(WRONG_BYTE, start);
            }
            if (letters < 1) {
                return blame(WRONG_BYTE, stop);
            }
            if (letters > ROW) {
                return blame(WRONG_BYTE, start + 1 + ROW);
            }
            if (count < MOST_SENSES) {
                codes[count] = value;
            }
            advance();
            return true;
        }

        // Of the methods from here to part(), open counts the ( [ not that are open around them.

        private boolean test(int open) {
            if (!both(open)) {
                return false;
            }
            for (int i = 0; i < TAPE_BYTES && isWord(OR); i++) {
                advance();
                if (!both(open)) {
                    return false;
                }
                emit(Facts.OR);
            }
            return true;
        }

        private boolean both(int open) {
            if (!fact(open)) {
                return false;
            }
            for (int i = 0; i < TAPE_BYTES && isWord(AND); i++) {
                advance();
                if (!fact(open)) {
                    return false;
                }
                emit(Facts.AND);
            }
            return true;
        }

        private boolean fact(int open) {
            if (isWord(ALL)) {
                advance();
                emit(Facts.ALL);
                return true;
            }
            boolean negated = isWord(NOT);
            if (!negated && !isSign('[')) {
                return comparison(open);
            }
            if (open >= MOST_OPEN) {
                return blame(TOO_DEEP, start);
            }
            advance();
            if (!negated) {
                return test(open + 1) && takeSign(']');
            }
            if (!fact(open + 1)) {
                return false;
            }
            emit(Facts.NOT);
            return true;
        }

        private boolean comparison(int open) {
            if (!sum(open)) {
                return false;
            }
            int sign = kind == Tokens.SIGN ? Facts.comparing(value) : NONE;
            if (sign == NONE) {
                return blame(WRONG_BYTE, start);
            }
            advance();
            if (!sum(open)) {
                return false;
            }
            emit(sign);
            return true;
        }

        private boolean sum(int open) {
            if (!part(open)) {
                return false;
            }
            for (int i = 0; i < TAPE_BYTES; i++) {
                int sign = kind == Tokens.SIGN ? Facts.joining(value) : NONE;
                if (sign == NONE) {
                    return true;
                }
                advance();
                if (!part(open)) {
                    return false;
                }
                emit(sign);
            }
            return true;
        }

        private boolean part(int open) {
            if (isSign('(')) {
                if (open >= MOST_OPEN) {
                    return blame(TOO_DEEP, start);
                }
                advance();
                return sum(open + 1) && takeSign(')');
            }
            int figure = kind == Tokens.NUMBER ? value : kind == Tokens.WORD ? figureNamed(value) : NONE;
            if (figure == NONE) {
                return blame(WRONG_BYTE, start);
            }
            if (kind == Tokens.NUMBER && stop - start > Tokens.NUMBER_DIGITS) {
                return blame(WRONG_BYTE, start + Tokens.NUMBER_DIGITS);
            }
            emit(figure);
            advance();
            return true;
        }

        private static int figureNamed(int word) {
            switch (word) {
                case SHIP:
                    return Facts.SHIP;
                case HOUR:
                    return Facts.HOUR;
                case MINUTE:
                    return Facts.MINUTE;
                case HAZE:
                    return Facts.HAZE;
                default:
                    return NONE;
            }
        }

        private static boolean isOwnWord(int word) {
            switch (word) {
                case SENSE:
                case IS:
                case FOR:
                case OR:
                case AND:
                case NOT:
                case ALL:
                    return true;
                default:
                    return figureNamed(word) != NONE;
            }
        }

        private void emit(int step) {
            if (programLength < program.length) {
                program[programLength] = step;
                programLength++;
            }
        }

        private boolean isWord(int word) {
            return kind == Tokens.WORD && value == word;
        }

        private boolean isSign(int sign) {
            return kind == Tokens.SIGN && value == sign;
        }

        private boolean takeWord(int word) {
            if (!isWord(word)) {
                return blame(WRONG_BYTE, start);
            }
            advance();
            return true;
        }

        private boolean takeSign(int sign) {
            if (!isSign(sign)) {
                return blame(WRONG_BYTE, start);
            }
            advance();
            return true;
        }

        /** Notes the FAULT; false, so that all that is being read is given up. */
        private boolean blame(int what, int place) {
            fault = what;
            faultPlace = place;
            return false;
        }

        /** Goes on to the next token; END has none behind it. */
        private void advance() {
            if (next < tokens.count && next < tokens.packed.length) {
                long token = tokens.packed[next];
                kind = (int) (token >> 50);
                start = (int) (token >> 40 & 1023L);
                stop = (int) (token >> 30 & 1023L);
                value = (int) (token & (1L << 30) - 1L);
                next++;
            }
        }
    }

    /** Tells whether TESTS hold, for one SHIP at one minute. */
    private static final class Facts {
        // The steps of a program; one of 0 and more is the NUMBER itself. None of them is NONE.
        // Those ahead of NOT put one figure more, NOT turns the last one, those behind it join the last two.
        private static final int SHIP = -2;
        private static final int HOUR = -3;
        private static final int MINUTE = -4;
        private static final int HAZE = -5;
        private static final int ALL = -6;
        private static final int NOT = -7;
        private static final int ADD = -8;
        private static final int TAKE = -9;
        private static final int TIMES = -10;
        private static final int LESS = -11;
        private static final int MORE = -12;
        private static final int SAME = -13;
        private static final int AND = -14;
        private static final int OR = -15;

        private static final long MOST = 1000000000L;

        // A TEST with 6 open at once leaves fewer than 32 figures waiting.
        private final int[] waiting = new int[64];
        private int ship;
        private int minute;
        private int haze;

        void set(int flyingShip, int atMinute, int hazeThen) {
            ship = flyingShip;
            minute = atMinute;
            haze = hazeThen;
        }

        boolean testHolds(Book book, int sense) {
            int from = book.testStart(sense);
            int to = sense >= 0 && sense < book.count ? book.testEnds[sense] : 0;
            int height = 0;
            for (int i = from; i < to && i < book.program.length; i++) {
                int step = book.program[i];
                if (step == NOT && height >= 1) {
                    waiting[height - 1] = 1 - waiting[height - 1];
                } else if (step <= ADD && height >= 2) {
                    height--;
                    waiting[height - 1] = joined(step, waiting[height - 1], waiting[height]);
                } else if (step > NOT && height < waiting.length) {
                    waiting[height] = figure(step);
                    height++;
                }
            }
            return height == 0 || waiting[0] != 0;
        }

        private int figure(int step) {
            switch (step) {
                case SHIP:
                    return ship;
                case HOUR:
                    return minute / 60;
                case MINUTE:
                    return minute;
                case HAZE:
                    return haze;
                case ALL:
                    return 1;
                default:
                    return step;
            }
        }

        private static int joined(int step, long left, long right) {
            switch (step) {
                case ADD:
                    return (int) Math.min(MOST, Math.max(-MOST, left + right));
                case TAKE:
                    return (int) Math.min(MOST, Math.max(-MOST, left - right));
                case TIMES:
                    return (int) Math.min(MOST, Math.max(-MOST, left * right));
                case LESS:
                    return left < right ? 1 : 0;
                case MORE:
                    return left > right ? 1 : 0;
                case SAME:
                    return left == right ? 1 : 0;
                case AND:
                    return left != 0 && right != 0 ? 1 : 0;
                default:
                    return left != 0 || right != 0 ? 1 : 0;
            }
        }

        /** The step of < > = ; NONE for another sign. */
        static int comparing(int sign) {
            switch (sign) {
                case '<':
                    return LESS;
                case '>':
                    return MORE;
                case '=':
                    return SAME;
                default:
                    return NONE;
            }
        }

        /** The step of + - * ; NONE for another sign. */
        static int joining(int sign) {
            switch (sign) {
                case '+':
                    return ADD;
                case '-':
                    return TAKE;
                case '*':
                    return TIMES;
                default:
                    return NONE;
            }
        }
    }

    /** In what rows of NAMES rows of letters are READ, by one BOOK for one SHIP at one minute. */
    private static final class Readings {
        private static final int WIDTH = ROW + 1;
        private static final int PARTS = ROW * WIDTH;
        private static final int CHOICES = MOST_ALIKE + 1;

        private final Squadron squadron;
        private final Facts facts;
        private Book book;
        private long holding;

        // Of the row split last, at (start of a part) * WIDTH + (its length): the SENSES in force with just this CODE,
        // and the ids of their NAMES, a bit each.
        private int length;
        private final long[] senseSets = new long[PARTS];
        private final long[] nameSets = new long[PARTS];
        private final boolean[] reachesEnd = new boolean[ROW + 1];

        // A row of NAMES is a number of six bits a NAME, each its id and 1, so that no NAME is 0.
        private final int[] rows = new int[MANY];
        private int found;
        private int limit;

        // What each sign of a HOIST may be, CHOICES places a sign.
        private final int[] choices = new int[ROW * CHOICES];

        Readings(Squadron ships) {
            squadron = ships;
            facts = new Facts();
        }

        void prepare(Book code, int ship, int minute) {
            book = code;
            holding = 0L;
            facts.set(ship, minute, squadron.hazeAt(minute));
            for (int s = 0; code != null && s < code.count; s++) {
                if (facts.testHolds(code, s)) {
                    holding |= 1L << s;
                }
            }
        }

        boolean inForce(int sense) {
            return (holding >> sense & 1L) != 0L;
        }

        /** Forgets the rows found; no more than this many will be looked for. */
        void begin(int most) {
            found = 0;
            limit = Math.min(most, rows.length);
        }

        /** Adds the rows of NAMES that a row of letters is READ in. */
        void gather(int letters) {
            split(letters);
            spell(this, 0, 0);
        }

        /** Adds all that a HOIST may be, SEEN at a DIM. */
        void gatherSeen(int hoist, int dim) {
            int signs = rowLength(hoist);
            for (int k = 0; k < signs; k++) {
                choose(k, signAt(hoist, signs, k), dim);
            }
            for (int pick = 0; pick < 1 << 2 * signs && found < limit; pick++) {
                int letters = toldBy(picked(pick, signs));
                if (letters != NONE) {
                    gather(letters);
                }
            }
        }

        /** The only row of NAMES that a row of letters is READ in; NONE when it isn't PLAIN. */
        int plainRow(int letters) {
            begin(2);
            split(letters);
            spell(this, 0, 0);
            return found == 1 ? rows[0] : NONE;
        }

        /** The SENSES in force whose CODE is this part of the row split last, a bit each. */
        long sensesOf(int from, int partLength) {
            int at = from * WIDTH + partLength;
            return at >= 0 && at < senseSets.length ? senseSets[at] : 0L;
        }

        private void split(int letters) {
            length = rowLength(letters);
            Arrays.fill(senseSets, 0L);
            Arrays.fill(nameSets, 0L);
            for (int s = 0; book != null && s < book.count; s++) {
                int part = book.codeLengths[s];
                for (int from = 0; from + part <= length && inForce(s); from++) {
                    int rest = letters >> 5 * (length - from - part);
                    if ((rest & (1 << 5 * part) - 1) == book.codes[s]) {
                        senseSets[from * WIDTH + part] |= 1L << s;
                        nameSets[from * WIDTH + part] |= 1L << book.ids[s];
                    }
                }
            }
            markEnds();
        }

        private void markEnds() {
            reachesEnd[length] = true;
            for (int from = length - 1; from >= 0; from--) {
                reachesEnd[from] = false;
                for (int part = 1; from + part <= length; part++) {
                    if (nameSets[from * WIDTH + part] != 0L && reachesEnd[from + part]) {
                        reachesEnd[from] = true;
                    }
                }
            }
        }

        /** Adds all rows that begin with these NAMES and go on from this letter; from rises by each level. */
        private static void spell(Readings r, int from, int names) {
            if (from >= r.length) {
                r.note(names);
                return;
            }
            for (int part = 1; from + part <= r.length; part++) {
                long set = r.reachesEnd[from + part] ? r.nameSets[from * WIDTH + part] : 0L;
                for (int id = 0; id < MOST_SENSES && r.found < r.limit; id++) {
                    if ((set >> id & 1L) != 0L) {
                        spell(r, from + part, names << 6 | id + 1);
                    }
                }
            }
        }

        private void note(int names) {
            for (int i = 0; i < found; i++) {
                if (rows[i] == names) {
                    return;
                }
            }
            if (found < limit && found < rows.length) {
                rows[found] = names;
                found++;
            }
        }

        /** Lists what sign k may be: itself, then the FLAGS that it is LIKE, then 0. */
        private void choose(int k, int sign, int dim) {
            int at = k * CHOICES;
            int end = at + CHOICES;
            choices[at] = sign;
            at++;
            for (int other = 0; other < FLAGS && sign <= FLAGS && at < end; other++) {
                if (squadron.alike(sign - 1, other, dim)) {
                    choices[at] = other + 1;
                    at++;
                }
            }
            for (int rest = at; rest < end; rest++) {
                choices[rest] = 0;
            }
        }

        /** The HOIST of one choice for each sign, two bits a sign; no HOIST when there is no such choice. */
        private int picked(int pick, int signs) {
            int seen = 0;
            for (int k = 0; k < signs; k++) {
                int choice = choices[k * CHOICES + (pick >> 2 * k & 3)];
                if (choice == 0) {
                    return NONE;
                }
                seen = seen << 5 | choice;
            }
            return seen;
        }
    }

    /** Finds the best way to SEND a row of NAMES, from its end back to its start. */
    private static final class Sender {
        private static final int NO_WAY = 1000;

        private final Squadron squadron;
        private final Readings readings;
        private final int[] ids = new int[MESSAGE_NAMES];
        private int length;
        private Book book;
        private int ship;

        // Of the best way from each NAME on: its first HOIST, where the part behind that starts, HOISTS and SIGNS.
        private final int[] hoists = new int[MESSAGE_NAMES + 1];
        private final int[] nexts = new int[MESSAGE_NAMES + 1];
        private final int[] hoistCounts = new int[MESSAGE_NAMES + 1];
        private final int[] signCounts = new int[MESSAGE_NAMES + 1];

        Sender(Squadron ships, Readings ways) {
            squadron = ships;
            readings = ways;
        }

        void clear() {
            length = 0;
        }

        void add(int id) {
            if (length < ids.length) {
                ids[length] = id;
                length++;
            }
        }

        /** How many HOISTS it takes; NONE when there is no way. */
        int plan(Book code, int sendingShip, int minute) {
            book = code;
            ship = sendingShip;
            readings.prepare(code, sendingShip, minute);
            hoistCounts[length] = 0;
            signCounts[length] = 0;
            for (int from = length - 1; from >= 0; from--) {
                hoistCounts[from] = NO_WAY;
                extend(from, from, 0, 0);
            }
            return length > 0 && hoistCounts[0] < NO_WAY ? hoistCounts[0] : NONE;
        }

        /** Puts the HOISTS of the plan from a place on; the place behind them. */
        int copyHoists(int[] to, int place) {
            int end = place;
            int from = 0;
            for (int i = 0; i < MESSAGE_NAMES && from >= 0 && from < length && end < to.length; i++) {
                to[end] = hoists[from];
                end++;
                from = nexts[from];
            }
            return end;
        }

        /** Tries each CODE of the next NAME behind these letters; each level has more of the 4 letters. */
        private void extend(int from, int next, int letters, int used) {
            for (int s = 0; book != null && s < book.count; s++) {
                int more = book.codeLengths[s];
                if (book.ids[s] == ids[next] && used + more <= ROW && readings.inForce(s)) {
                    offer(from, next + 1, letters << 5 * more | book.codes[s], used + more);
                }
            }
        }

        private void offer(int from, int next, int letters, int used) {
            int hoist = hoistCounts[next] < NO_WAY ? squadron.hoistFor(ship, letters) : NONE;
            if (hoist != NONE && isBetter(from, next, hoist, used) && readings.plainRow(letters) != NONE) {
                hoists[from] = hoist;
                nexts[from] = next;
                hoistCounts[from] = hoistCounts[next] + 1;
                signCounts[from] = signCounts[next] + used;
            }
            if (next < length && used < ROW) {
                extend(from, next, letters, used);
            }
        }

        private boolean isBetter(int from, int next, int hoist, int used) {
            int count = hoistCounts[next] + 1;
            int signs = signCounts[next] + used;
            if (count != hoistCounts[from]) {
                return count < hoistCounts[from];
            }
            // Equal HOISTS are PLAIN for the same part, so what stands behind them is the same too.
            return signs != signCounts[from] ? signs < signCounts[from] : hoist < hoists[from];
        }
    }

    /** THE LINE: what each SHIP has aloft and to pass on, minute by minute. */
    private static final class Relay {
        private static final int LONGEST = 300;
        private static final int MINUTES_ALOFT = 20;

        // A HOIST of n SIGNS is READ in n NAMES at most, n + 1 minutes behind the one before: 4 NAMES in 5 minutes.
        private static final int ROOM = LONGEST * ROW / (ROW + 1);

        private final Squadron squadron;
        private final Readings readings;
        private final Sender sender;
        private int last = NONE;
        private final int[][] queues = new int[SHIPS - 1][ROOM];
        private final int[] heads = new int[SHIPS];
        private final int[] tails = new int[SHIPS];
        private final int[] aloft = new int[SHIPS];
        private final int[] aloftFrom = new int[SHIPS];
        private final boolean[] stopped = new boolean[SHIPS];
        private final int[] namesRead = new int[SHIPS];
        private final int[] latestRead = new int[SHIPS];
        private final int[] hoistsRead = new int[SHIPS];
        private final boolean[] lost = new boolean[SHIPS];
        private final int[] heardNames = new int[ROOM];
        private int heardCount;

        Relay(Squadron ships, Readings ways, Sender sending) {
            squadron = ships;
            readings = ways;
            sender = sending;
        }

        /** All as at first, and SHIP 0 with what the sender has planned. */
        void start(int lastShip) {
            last = lastShip;
            heardCount = 0;
            Arrays.fill(heads, 0);
            Arrays.fill(tails, 0);
            Arrays.fill(aloft, 0);
            Arrays.fill(namesRead, 0);
            Arrays.fill(latestRead, NONE);
            Arrays.fill(hoistsRead, 0);
            for (int ship = 0; ship < SHIPS; ship++) {
                stopped[ship] = false;
                lost[ship] = false;
            }
            tails[0] = sender.copyHoists(queues[0], 0);
        }

        void pass(Book book, int start) {
            for (int minute = start; minute < start + LONGEST && isBusy(); minute++) {
                for (int ship = 0; ship < last && ship + 1 < SHIPS; ship++) {
                    int row = fly(book, ship, minute);
                    if (row != NONE) {
                        hear(row, ship + 1, minute);
                        relayOn(book, ship + 1, minute);
                    }
                }
            }
        }

        private boolean isBusy() {
            for (int ship = 0; ship < last && ship < SHIPS; ship++) {
                if (aloft[ship] != 0 || heads[ship] < tails[ship]) {
                    return true;
                }
            }
            return false;
        }

        /** A SHIP's minute: the row of NAMES that the next SHIP READS by it, or NONE. */
        private int fly(Book book, int ship, int minute) {
            if (aloft[ship] == 0) {
                bendOn(ship, minute);
                return NONE;
            }
            if (minute < aloftFrom[ship]) {
                return NONE;
            }
            readings.prepare(book, ship, minute);
            readings.begin(2);
            readings.gatherSeen(aloft[ship], squadron.dimAt(ship, minute));
            if (readings.found == 1) {
                aloft[ship] = 0;
                hoistsRead[ship]++;
                return readings.rows[0];
            }
            if (minute - aloftFrom[ship] >= MINUTES_ALOFT - 1) {
                aloft[ship] = 0;
                heads[ship] = tails[ship];
                lose(ship);
            }
            return NONE;
        }

        private void bendOn(int ship, int minute) {
            int head = heads[ship];
            if (ship < queues.length && head < tails[ship] && head < ROOM) {
                aloft[ship] = queues[ship][head];
                aloftFrom[ship] = minute + rowLength(aloft[ship]);
                heads[ship] = head + 1;
            }
        }

        private void lose(int ship) {
            lost[ship] = true;
            stopped[ship] = true;
        }

        /** The next SHIP READS a row of NAMES, and lays it before the sender. */
        private void hear(int row, int ship, int minute) {
            sender.clear();
            for (int shift = 6 * (ROW - 1); shift >= 0; shift -= 6) {
                int id = (row >> shift & 63) - 1;
                if (id >= 0) {
                    sender.add(id);
                    namesRead[ship]++;
                    if (ship == last && heardCount < heardNames.length) {
                        heardNames[heardCount] = id;
                        heardCount++;
                    }
                }
            }
            latestRead[ship] = minute;
        }

        private void relayOn(Book book, int ship, int minute) {
            if (ship >= last || ship >= queues.length || stopped[ship]) {
                return;
            }
            if (sender.plan(book, ship, minute) == NONE) {
                lose(ship);
            } else {
                tails[ship] = sender.copyHoists(queues[ship], tails[ship]);
            }
        }
    }

    /** ACTS in the order in which they came, from 1 on. */
    private static final class Acts {
        private final Book[] books = new Book[MOST_ACTS + 1];
        private final int[] hoists = new int[MOST_ACTS + 1];
        private final int[] ships = new int[MOST_ACTS + 1];
        private final int[] minutes = new int[MOST_ACTS + 1];
        private final int[] voidBy = new int[MOST_ACTS + 1];
        private int count;
        private int toldAs = NONE;

        int addBook(Book book) {
            if (count < MOST_ACTS) {
                count++;
                books[count] = book;
            }
            return count;
        }

        int addFlown(int ship, int minute, int hoist) {
            if (count < MOST_ACTS) {
                count++;
                ships[count] = ship;
                minutes[count] = minute;
                hoists[count] = hoist;
            }
            return count;
        }

        int addVoid(int act) {
            if (count < MOST_ACTS) {
                count++;
                voidBy[act] = count;
            }
            return count;
        }

        boolean canBeVoid(int act) {
            return act >= 1 && act <= count && voidBy[act] == 0 && (books[act] != null || hoists[act] != 0);
        }

        /** The ACT as known at which all is told. */
        int knownAt() {
            return toldAs == NONE ? count : toldAs;
        }

        private boolean isKnown(int act, int at) {
            return act >= 1 && act <= at && act <= count && (voidBy[act] == 0 || voidBy[act] > at);
        }

        boolean isFlownKnown(int act, int at) {
            return isKnown(act, at) && hoists[act] != 0;
        }

        int countFlown() {
            int flown = 0;
            for (int act = 1; act <= count; act++) {
                if (isFlownKnown(act, knownAt())) {
                    flown++;
                }
            }
            return flown;
        }

        /** THE BOOK as known at an ACT; null without one. */
        Book bookAt(int at) {
            for (int act = Math.min(at, count); act >= 1; act--) {
                if (isKnown(act, at) && books[act] != null) {
                    return books[act];
                }
            }
            return null;
        }
    }

    /** What THE OTHER SIDE can READ, and which SENSES had best be changed. */
    private static final class OtherSide {
        private static final int NEITHER = 0;
        private static final int MISLED = 1;
        private static final int READS = 2;
        private static final int MOST_CHANGES = 4;

        // PLAIN rows have as many parts in each cut, and 4 letters are cut in 2 parts, or in 3, in 3 ways.
        private static final int CUTS = 3 * MOST_ACTS;

        private final Acts acts;
        private final Readings readings;
        private final long[] parts = new long[CUTS * ROW];
        private int cuts;
        private final int[] chosen = new int[MOST_CHANGES];
        private final int[] changes = new int[MOST_CHANGES];
        private int changeCount;

        OtherSide(Acts told, Readings ways) {
            acts = told;
            readings = ways;
        }

        /** What a FLOWN HOIST is for him with his BOOK; a BOOK is null where there is none. */
        int understands(int act, Book ours, Book his) {
            int theirRow = plainRow(his, act);
            int ourRow = plainRow(ours, act);
            if (theirRow == NONE || ourRow == NONE) {
                return NEITHER;
            }
            return sameNames(ours, ourRow, his, theirRow) ? READS : MISLED;
        }

        private int plainRow(Book book, int act) {
            if (book == null) {
                return NONE;
            }
            readings.prepare(book, acts.ships[act], acts.minutes[act]);
            return readings.plainRow(toldBy(acts.hoists[act]));
        }

        private static boolean sameNames(Book one, int oneRow, Book two, int twoRow) {
            for (int shift = 0; shift < 6 * ROW; shift += 6) {
                if (nameOf(one, (oneRow >> shift & 63) - 1) != nameOf(two, (twoRow >> shift & 63) - 1)) {
                    return false;
                }
            }
            return true;
        }

        private static int nameOf(Book book, int id) {
            return id >= 0 && id < book.count ? book.names[id] : 0;
        }

        /** How many SENSES had best be changed; NONE when 4 are not enough. */
        int findChange(Book ours, Book his) {
            cuts = 0;
            int senses = ours == null ? 0 : ours.count;
            for (int act = 1; act <= acts.count; act++) {
                // Our BOOK is read last, so the readings are then split by it.
                if (acts.isFlownKnown(act, acts.knownAt()) && understands(act, ours, his) == READS) {
                    addCuts();
                }
            }
            for (int size = 0; size <= MOST_CHANGES; size++) {
                if (search(this, senses, 0, 0L, 0, size)) {
                    System.arraycopy(chosen, 0, changes, 0, MOST_CHANGES);
                    changeCount = size;
                    return size;
                }
            }
            return NONE;
        }

        /** Adds the cuts of the row that was split last. */
        private void addCuts() {
            int length = readings.length;
            for (int cut = 0; cut < 1 << length - 1; cut++) {
                if (cuts < CUTS && addCut(cut, length)) {
                    cuts++;
                }
            }
        }

        /** Bit k of a cut: a part ends behind letter k. False when it is no way to READ the row. */
        private boolean addCut(int cut, int length) {
            int from = 0;
            int at = cuts * ROW;
            for (int k = 0; k < ROW; k++) {
                parts[at + k] = 0L;
            }
            for (int k = 0; k < length && k < ROW; k++) {
                if (k == length - 1 || (cut >> k & 1) != 0) {
                    parts[at] = readings.sensesOf(from, k + 1 - from);
                    if (parts[at] == 0L) {
                        return false;
                    }
                    at++;
                    from = k + 1;
                }
            }
            return true;
        }

        /** Whether so many SENSES more, none below least, make the set do; size levels at most. */
        private static boolean search(OtherSide o, int senses, int least, long set, int depth, int size) {
            if (!o.canDo(set, least, size - depth)) {
                return false;
            }
            if (depth >= size || depth >= MOST_CHANGES) {
                return true;
            }
            for (int s = least; s < senses; s++) {
                o.chosen[depth] = s;
                if (search(o, senses, s + 1, set | 1L << s, depth + 1, size)) {
                    return true;
                }
            }
            return false;
        }

        /** Whether each cut, by itself, has a part that the set and so many SENSES more hold whole. */
        private boolean canDo(long set, int least, int more) {
            for (int c = 0; c < cuts; c++) {
                boolean can = false;
                for (int k = 0; k < ROW && !can; k++) {
                    long part = parts[c * ROW + k];
                    long missing = part & ~set;
                    can = part != 0L && missing >> least << least == missing && Long.bitCount(missing) <= more;
                }
                if (!can) {
                    return false;
                }
            }
            return true;
        }
    }
}
