import java.util.Arrays;

/**
 * A dead letter office: letters that cannot be delivered are sent to readers who would have liked them.
 * The document's promises are answered here; the classes inside hold the text, the laws and the days.
 */
public final class HopeDrawer {
    public static final int NONE = -1;

    private static final int NOBODY = -2;
    private static final int NO_MEASURE = -100000;
    private static final int MAX_LETTERS = 7;
    private static final int MAX_READERS = 6;
    private static final int MAX_DAYS = 60;
    private static final int MAX_SEEDS = 20;
    private static final int MAX_LIKES = 99;
    private static final int SLOTS = 3;
    private static final int FEED_BYTES = 20;

    private final Tape tape;
    private final Parser parser;
    private Text text;
    private Text draft;
    private final Office now;
    private final Office ahead;
    private final Office[] slots;
    private int heldSlots;
    private final History history;
    private final Told told;
    private final Dealing dealing;
    private final Answering answering;
    private int faultPlace;

    public HopeDrawer() {
        tape = new Tape();
        parser = new Parser();
        text = new Text();
        draft = new Text();
        now = new Office();
        ahead = new Office();
        slots = new Office[SLOTS];
        for (int slot = 0; slot < SLOTS; slot++) {
            slots[slot] = new Office();
        }
        history = new History();
        told = new Told();
        dealing = new Dealing();
        answering = new Answering();
        faultPlace = NONE;
        text.clear();
        now.open(text);
    }

    public int feed(int a, int b, int c, int d, int e) {
        if (!tape.hasRoom(FEED_BYTES)) {
            return NONE;
        }
        tape.addWord(a);
        tape.addWord(b);
        tape.addWord(c);
        tape.addWord(d);
        tape.addWord(e);
        return tape.length;
    }

    public int back(int n) {
        if (n < 0 || n > tape.length) {
            return NONE;
        }
        tape.length -= n;
        return tape.length;
    }

    public int read() {
        int fault = parser.parse(tape, draft);
        faultPlace = fault == Parser.NO_FAULT ? NONE : parser.faultPlace;
        tape.length = 0;
        if (fault == Parser.NO_FAULT) {
            openDraft();
        }
        return fault;
    }

    public int place() {
        return faultPlace;
    }

    public int letter(int letter, int what) {
        if (!isLetter(letter)) {
            return NONE;
        }
        switch (what) {
            case 0:
            case 1:
            case 2:
            case 3:
                return text.letterMarks[letter][what];
            case 4:
                return now.where[letter];
            case 5:
                return now.holder[letter];
            case 6:
                return now.sentBack[letter];
            case 7:
                return text.ageOn(letter, now.day);
            default:
                return NONE;
        }
    }

    public int reader(int reader, int what) {
        if (!isReader(reader)) {
            return NONE;
        }
        switch (what) {
            case 0:
                return now.want[reader];
            case 1:
            case 2:
                return text.readerMarks[reader][what];
            case 3:
                return now.has[reader];
            case 4:
                return now.had[reader];
            default:
                return NONE;
        }
    }

    public int tells(int letter, int reader, int what) {
        if (!isLetter(letter) || !isReader(reader)) {
            return NONE;
        }
        switch (what) {
            case 0:
                return likesNow(letter, reader);
            case 1:
                return text.rathersOf(now, letter, reader);
            case 2:
                return text.isReturned(now, letter, reader) ? 1 : 0;
            default:
                return NONE;
        }
    }

    public int answers(int letter, int other) {
        if (!isLetter(letter) || !isLetter(other) || !text.cameEarlier(other, letter)) {
            return NONE;
        }
        return text.isAnswered(other, letter, now.day) ? 1 : 0;
    }

    public boolean send(int letter, int reader) {
        if (!isOnShelf(letter) || !isReader(reader) || now.has[reader] != NOBODY) {
            return false;
        }
        history.remember(now);
        now.giveTo(letter, reader);
        return true;
    }

    public boolean takeBack(int letter) {
        if (!isWithReader(letter)) {
            return false;
        }
        history.remember(now);
        now.takeFromReader(letter, Office.SHELF);
        return true;
    }

    public boolean burn(int letter) {
        if (!isOnShelf(letter)) {
            return false;
        }
        history.remember(now);
        now.where[letter] = Office.BURNT;
        return true;
    }

    public int days(int n) {
        if (!isSpan(n)) {
            return NONE;
        }
        if (n > 0) {
            history.remember(now);
        }
        for (int i = 0; i < n; i++) {
            now.passDay(text, text.seed(), text.wet());
        }
        return now.day;
    }

    public boolean undo() {
        return history.recall(now);
    }

    public int dealt(int i) {
        if (i != NONE && !isLetter(i)) {
            return NONE;
        }
        dealing.dealBest(text, now);
        return i == NONE ? dealing.total : dealing.whom[i];
    }

    public int stable(int letter) {
        if (!isLetter(letter)) {
            return NONE;
        }
        dealing.dealByAsking(text, now);
        return dealing.whom[letter];
    }

    public int uneasy(int what) {
        if (what != 0 && what != 1) {
            return NONE;
        }
        int pairs = 0;
        int firstPair = NOBODY;
        for (int letter = 0; letter < text.letters; letter++) {
            for (int reader = 0; reader < text.readers; reader++) {
                if (wouldRatherMove(letter, reader)) {
                    firstPair = pairs == 0 ? 10 * letter + reader : firstPair;
                    pairs++;
                }
            }
        }
        return what == 0 ? pairs : firstPair;
    }

    public int favourite(int reader, int what) {
        if (!isReader(reader) || what < 0 || what > 1) {
            return NONE;
        }
        int favoured = NOBODY;
        int most = NOBODY;
        for (int letter = 0; letter < text.letters; letter++) {
            if (now.where[letter] != Office.BURNT) {
                int liking = likesNow(letter, reader);
                if (liking > most) {
                    favoured = letter;
                    most = liking;
                }
            }
        }
        return what == 0 ? favoured : most;
    }

    public int crowd(int letter, int v) {
        if (!isLetter(letter) || v < 1 || v > MAX_LIKES) {
            return NONE;
        }
        int bits = 0;
        for (int reader = 0; reader < text.readers; reader++) {
            if (likesNow(letter, reader) >= v) {
                bits |= 1 << reader;
            }
        }
        return bits;
    }

    public int chain(int i) {
        if (i < NONE) {
            return NONE;
        }
        answering.findChain(text, now);
        if (i == NONE) {
            return answering.chainLength;
        }
        return i < answering.chainLength ? answering.chainRow[i] : NONE;
    }

    public int bundle(int letter) {
        if (!isLetter(letter)) {
            return NONE;
        }
        return answering.tiedTo(letter, text, now.day);
    }

    public int keep(int letter) {
        if (!isWithReader(letter)) {
            return NO_MEASURE;
        }
        int reader = now.holder[letter];
        return likesNow(letter, reader) - mostOnShelf(reader);
    }

    public int barren() {
        int bits = 0;
        for (int reader = 0; reader < text.readers; reader++) {
            if (mostOnShelf(reader) == 0) {
                bits |= 1 << reader;
            }
        }
        return bits;
    }

    public int change(int letter, int other) {
        if (letter == other || !isWithReader(letter) || !isWithReader(other)) {
            return NO_MEASURE;
        }
        return gainOfChange(letter, other);
    }

    public int changeBest(int what) {
        if (what != 0 && what != 1) {
            return NONE;
        }
        int pair = NOBODY;
        int most = 0;
        for (int letter = 0; letter < text.letters; letter++) {
            for (int other = letter + 1; other < text.letters; other++) {
                if (isWithReader(letter) && isWithReader(other)) {
                    int gain = gainOfChange(letter, other);
                    if (gain > most) {
                        pair = 10 * letter + other;
                        most = gain;
                    }
                }
            }
        }
        return what == 0 || pair == NOBODY ? pair : most;
    }

    public int waiting(int n) {
        if (!isSpan(n)) {
            return NONE;
        }
        goAhead(n, text.seed(), 0);
        return Integer.bitCount(ahead.lettersAt(Office.SHELF, text.letters));
    }

    public int first() {
        ahead.copyFrom(now);
        int before = ahead.allSentBack(text.letters);
        for (int n = 1; n <= MAX_DAYS; n++) {
            ahead.passDay(text, text.seed(), 0);
            if (ahead.allSentBack(text.letters) > before) {
                return n;
            }
        }
        return NOBODY;
    }

    public int then(int letter, int n, int what) {
        if (!isLetter(letter) || !isSpan(n) || what < 0 || what > 1) {
            return NONE;
        }
        goAhead(n, text.seed(), text.wet());
        return what == 0 ? ahead.where[letter] : ahead.holder[letter];
    }

    public int readerIn(int reader, int n, int what) {
        if (!isReader(reader) || !isSpan(n) || what < 0 || what > 1) {
            return NONE;
        }
        goAhead(n, text.seed(), text.wet());
        return what == 0 ? ahead.has[reader] : ahead.want[reader];
    }

    public int likedIn(int n) {
        if (!isSpan(n)) {
            return NONE;
        }
        goAhead(n, text.seed(), text.wet());
        return text.allLikes(ahead);
    }

    public int year(int letter, int n, int s) {
        if (!isLetter(letter) || !isSpan(n) || s < 1 || s > MAX_SEEDS) {
            return NONE;
        }
        int times = 0;
        for (int i = 0; i < s; i++) {
            goAhead(n, text.seed() + i, text.wet());
            if (ahead.where[letter] == Office.WITH_READER) {
                times++;
            }
            if (!text.hasChanceOfWet()) {
                return times * s;
            }
        }
        return times;
    }

    public int search(int letter, int i) {
        if (!isLetter(letter) || !isReader(i)) {
            return NONE;
        }
        int looked = 0;
        int drawer = NONE;
        for (int turn = 0; turn <= i; turn++) {
            drawer = bestDrawer(letter, looked);
            if (drawer == NONE) {
                return NONE;
            }
            looked |= 1 << drawer;
        }
        return drawer;
    }

    public int tell(int mark, int v, boolean so) {
        if (mark < 0 || mark >= Told.MARKS || v < 0 || v > Told.MAX_VALUE || told.isFull()) {
            return NONE;
        }
        return told.add(mark, v, so);
    }

    public int forget() {
        int forgotten = told.size;
        told.size = 0;
        return forgotten;
    }

    public int which(int k, int what) {
        if (k < 0 || k > told.size || what < 0 || what > 1) {
            return NONE;
        }
        int bits = told.lettersLeft(text, k);
        return what == 0 ? Integer.bitCount(bits) : bits;
    }

    public int next(int k) {
        if (k < 0 || k > told.size) {
            return NONE;
        }
        return Told.bestQuestion(text, told.lettersLeft(text, k));
    }

    public boolean hold(int slot) {
        if (slot < 0 || slot >= SLOTS) {
            return false;
        }
        slots[slot].copyFrom(now);
        heldSlots |= 1 << slot;
        return true;
    }

    public boolean restore(int slot) {
        if (slot < 0 || slot >= SLOTS || (heldSlots & 1 << slot) == 0) {
            return false;
        }
        now.copyFrom(slots[slot]);
        history.size = 0;
        return true;
    }

    public int count(int what) {
        switch (what) {
            case 0:
                return text.letters;
            case 1:
                return text.readers;
            case 2:
                return now.day;
            case 3:
            case 4:
            case 5:
            case 6:
                return now.lettersAt(what - 3, text.letters);
            case 7:
                return text.allLikes(now);
            case 8:
                return tape.length;
            case 9:
                return history.size;
            case 10:
                return told.size;
            case 11:
                return Integer.bitCount(heldSlots);
            case 12:
                return Office.isWet(text.seed(), now.day, text.wet()) ? 1 : 0;
            case 13:
                return now.allSentBack(text.letters);
            case 14:
                return now.allHad(text.readers);
            case 15:
                return now.freeReaders(text.readers);
            default:
                return NONE;
        }
    }

    private void openDraft() {
        Text past = text;
        text = draft;
        draft = past;
        now.open(text);
        history.size = 0;
        told.size = 0;
        heldSlots = 0;
    }

    private boolean isLetter(int letter) {
        return letter >= 0 && letter < text.letters;
    }

    private boolean isReader(int reader) {
        return reader >= 0 && reader < text.readers;
    }

    private boolean isOnShelf(int letter) {
        return isLetter(letter) && now.where[letter] == Office.SHELF;
    }

    private boolean isWithReader(int letter) {
        return isLetter(letter) && now.where[letter] == Office.WITH_READER;
    }

    private static boolean isSpan(int n) {
        return n >= 0 && n <= MAX_DAYS;
    }

    private int likesNow(int letter, int reader) {
        return text.likesOf(now, letter, reader);
    }

    private void goAhead(int n, int seed, int wet) {
        ahead.copyFrom(now);
        for (int i = 0; i < n; i++) {
            ahead.passDay(text, seed, wet);
        }
    }

    private boolean wouldRatherMove(int letter, int reader) {
        if (!isWithReader(letter) || now.holder[letter] == reader) {
            return false;
        }
        int own = now.has[reader];
        int ownLiking = own == NOBODY ? 0 : likesNow(own, reader);
        return likesNow(letter, reader) > ownLiking
            && text.rathersOf(now, letter, reader) > text.rathersOf(now, letter, now.holder[letter]);
    }

    private int mostOnShelf(int reader) {
        int most = 0;
        for (int letter = 0; letter < text.letters; letter++) {
            if (now.where[letter] == Office.SHELF) {
                most = Math.max(most, likesNow(letter, reader));
            }
        }
        return most;
    }

    private int gainOfChange(int letter, int other) {
        int reader = now.holder[letter];
        int otherReader = now.holder[other];
        return likesNow(letter, otherReader) + likesNow(other, reader)
            - likesNow(letter, reader) - likesNow(other, otherReader);
    }

    /** Fractions are compared crosswise, so that nothing is lost by rounding. */
    private int bestDrawer(int letter, int looked) {
        int best = NONE;
        int bestLikes = 0;
        int bestTime = 1;
        for (int reader = 0; reader < text.readers; reader++) {
            if ((looked & 1 << reader) == 0) {
                int liking = likesNow(letter, reader);
                int time = text.readerMarks[reader][Text.PATIENCE] + 1;
                if (best == NONE || liking * bestTime > bestLikes * time) {
                    best = reader;
                    bestLikes = liking;
                    bestTime = time;
                }
            }
        }
        return best;
    }

    /** The bytes that were fed and not yet read. */
    private static final class Tape {
        static final int MAX_BYTES = 2000;

        final byte[] bytes = new byte[MAX_BYTES];
        int length;

        boolean hasRoom(int more) {
            return length + more <= MAX_BYTES;
        }

        void addWord(int word) {
            for (int shift = 24; shift >= 0 && length < MAX_BYTES; shift -= 8) {
                bytes[length] = (byte) (word >>> shift);
                length++;
            }
        }

        int byteAt(int at) {
            return at >= 0 && at < length ? bytes[at] & 255 : NONE;
        }
    }

    /** Cuts the tape into tokens, one at a time. */
    private static final class Tokens {
        static final int END = 0;
        static final int NO_TOKEN = 1;
        static final int NAME = 2;
        static final int INT = 3;
        static final int SEMICOLON = 4;
        static final int EQUALS = 5;
        static final int PLUS = 6;
        static final int MINUS = 7;
        static final int TIMES = 8;
        static final int OVER = 9;
        static final int LESS = 10;
        static final int OPEN = 11;
        static final int CLOSE = 12;
        static final int LETTER = 13;
        static final int READER = 14;
        static final int LIKES = 15;
        static final int ANSWERS = 18;
        static final int TURNS = 19;
        static final int SEED = 21;
        static final int IF = 22;
        static final int THEN = 23;
        static final int ELSE = 24;
        static final int APART = 25;
        static final int HAD = 33;

        private static final String SIGNS = ";=+-*/<()";
        /** Eight characters a word, in the order of their numbers from LETTER to HAD. */
        private static final String WORDS = "letter  reader  likes   rathers returns answers turns   wet     seed    if      then    else    apart   hand    grief   taste   patienceage     day     which   had     ";
        private static final int WORD_COUNT = 21;
        private static final int MAX_WORD = 8;
        private static final int MAX_DIGITS = 4;

        private final long[] wordCodes = new long[WORD_COUNT];
        private Tape tape;
        private int at;
        int kind;
        int start;
        int number;
        long name;

        Tokens() {
            for (int word = 0; word < WORD_COUNT; word++) {
                wordCodes[word] = codeOfWord(word);
            }
        }

        private static long codeOfWord(int word) {
            long code = 0;
            for (int i = word * MAX_WORD; i < (word + 1) * MAX_WORD && i < WORDS.length(); i++) {
                char sign = WORDS.charAt(i);
                code = sign == ' ' ? code : withLetter(code, sign);
            }
            return code;
        }

        private static long withLetter(long code, int letter) {
            return code * 32 + (letter - 'a' + 1);
        }

        void startOn(Tape newTape) {
            tape = newTape;
            at = 0;
            kind = END;
            start = 0;
        }

        void advance() {
            skipBlanks();
            start = at;
            int sign = signHere();
            if (sign == NONE) {
                kind = END;
            } else if (isLowerCase(sign)) {
                scanWord();
            } else if (isDigit(sign)) {
                scanInt();
            } else {
                int index = SIGNS.indexOf((char) sign);
                kind = index < 0 ? NO_TOKEN : SEMICOLON + index;
                at++;
            }
        }

        private int signHere() {
            return tape == null ? NONE : tape.byteAt(at);
        }

        private void skipBlanks() {
            for (int i = 0; i < Tape.MAX_BYTES && isBlank(signHere()); i++) {
                at++;
            }
        }

        private void scanWord() {
            name = 0;
            for (int i = 0; i < Tape.MAX_BYTES && isLowerCase(signHere()); i++) {
                name = i < MAX_WORD ? withLetter(name, signHere()) : name;
                at++;
            }
            kind = at - start > MAX_WORD ? NO_TOKEN : kindOfName();
        }

        private int kindOfName() {
            for (int word = 0; word < WORD_COUNT; word++) {
                if (wordCodes[word] == name) {
                    return LETTER + word;
                }
            }
            return NAME;
        }

        private void scanInt() {
            number = 0;
            for (int i = 0; i < Tape.MAX_BYTES && isDigit(signHere()); i++) {
                number = i < MAX_DIGITS ? number * 10 + (signHere() - '0') : number;
                at++;
            }
            kind = at - start > MAX_DIGITS ? NO_TOKEN : INT;
        }

        private static boolean isBlank(int sign) {
            return sign == 9 || sign == 10 || sign == 13 || sign == 32;
        }

        private static boolean isLowerCase(int sign) {
            return sign >= 'a' && sign <= 'z';
        }

        private static boolean isDigit(int sign) {
            return sign >= '0' && sign <= '9';
        }
    }

    /**
     * Reads a tape into a text, token by token, as a row of states: each state knows which tokens go on,
     * so the first one that does not is the fault's place.
     */
    private static final class Parser {
        static final int NO_FAULT = 0;
        private static final int SYNTAX = 1;
        private static final int ROOM = 2;
        private static final int TWICE = 3;
        private static final int WRONG = 5;

        private static final int MAX_TOKENS = 400;
        private static final int MAX_IFS = 4;
        private static final int MAX_NESTED = 6;

        private static final int AT_TELL = 0;
        private static final int AT_NAME = 1;
        private static final int AT_INT = 2;
        private static final int AT_TELL_END = 3;
        private static final int AT_EQUALS = 4;
        private static final int AT_LAW_PART = 5;
        private static final int AT_UNIT = 6;
        private static final int BEHIND_UNIT = 7;

        private static final int[] LETTER_LIMITS = {9, 9, 9, 99};
        private static final int[] READER_LIMITS = {9, 9, 9};
        private static final int[] SETTING_LIMITS = {99, 100, 9999};

        private final Tokens tokens = new Tokens();
        private final LawMaker maker = new LawMaker();
        private Text text;
        private int state;
        private boolean overfull;
        private int tellKind;
        private int[] row;
        private int[] limits;
        private int field;
        private int lastField;
        private int ifs;
        private int nested;
        private int partEnd;
        private int meaningFault;
        private int meaningPlace;
        int faultPlace;

        int parse(Tape tape, Text draft) {
            begin(tape, draft);
            for (int token = 1; token <= MAX_TOKENS + 1; token++) {
                tokens.advance();
                if (!goesOnWith(tokens.kind)) {
                    return faultHere(SYNTAX);
                }
                if (tokens.kind == Tokens.END) {
                    faultPlace = meaningPlace;
                    return meaningFault;
                }
                if (overfull || token > MAX_TOKENS) {
                    return faultHere(ROOM);
                }
            }
            return faultHere(ROOM);
        }

        private void begin(Tape tape, Text draft) {
            tokens.startOn(tape);
            draft.clear();
            text = draft;
            state = AT_TELL;
            overfull = false;
            row = draft.settings;
            limits = SETTING_LIMITS;
            field = 0;
            lastField = 0;
            meaningFault = NO_FAULT;
            meaningPlace = NONE;
        }

        private int faultHere(int fault) {
            faultPlace = tokens.start;
            return fault;
        }

        /** Faults of meaning count only in a text without others, so the first is kept until the end. */
        private void noteMeaningFault(int fault) {
            if (meaningFault == NO_FAULT) {
                meaningFault = fault;
                meaningPlace = tokens.start;
            }
        }

        private boolean goesOnWith(int kind) {
            switch (state) {
                case AT_TELL:
                    return kind == Tokens.END || startTell(kind);
                case AT_NAME:
                    return kind == Tokens.NAME && takeName();
                case AT_INT:
                    return kind == Tokens.INT && takeInt();
                case AT_TELL_END:
                    state = AT_TELL;
                    return kind == Tokens.SEMICOLON;
                case AT_EQUALS:
                    state = AT_LAW_PART;
                    return kind == Tokens.EQUALS;
                case AT_LAW_PART:
                    return kind == Tokens.IF ? startIf() : takeUnit(kind);
                case AT_UNIT:
                    return takeUnit(kind);
                default:
                    return goOnBehindUnit(kind);
            }
        }

        private boolean startTell(int kind) {
            tellKind = kind;
            if (kind == Tokens.LETTER) {
                overfull = text.letters >= MAX_LETTERS;
                state = AT_NAME;
            } else if (kind == Tokens.READER) {
                overfull = text.readers >= MAX_READERS;
                state = AT_NAME;
            } else if (kind >= Tokens.LIKES && kind <= Tokens.ANSWERS) {
                startLaw(kind - Tokens.LIKES);
            } else if (kind >= Tokens.TURNS && kind <= Tokens.SEED) {
                wantInts(text.settings, SETTING_LIMITS, kind - Tokens.TURNS, kind - Tokens.TURNS);
            } else {
                return false;
            }
            return true;
        }

        private void wantInts(int[] newRow, int[] newLimits, int fromField, int toField) {
            row = newRow;
            limits = newLimits;
            field = fromField;
            lastField = toField;
            state = AT_INT;
        }

        private boolean takeName() {
            if (text.hasName(tokens.name)) {
                noteMeaningFault(TWICE);
            }
            text.addName(tokens.name);
            if (tellKind == Tokens.LETTER && text.letters < MAX_LETTERS) {
                wantInts(text.letterMarks[text.letters], LETTER_LIMITS, 0, LETTER_LIMITS.length - 1);
                text.letters++;
            } else if (tellKind == Tokens.READER && text.readers < MAX_READERS) {
                wantInts(text.readerMarks[text.readers], READER_LIMITS, 0, READER_LIMITS.length - 1);
                text.readers++;
            }
            return true;
        }

        private boolean takeInt() {
            if (row == null || limits == null || field < 0 || field >= row.length || field >= limits.length) {
                return false;
            }
            if (tokens.number > limits[field]) {
                noteMeaningFault(WRONG);
            }
            row[field] = tokens.number;
            state = field == lastField ? AT_TELL_END : AT_INT;
            field++;
            return true;
        }

        private void startLaw(int which) {
            maker.startLaw(text.laws[which]);
            ifs = 0;
            nested = 0;
            partEnd = Tokens.SEMICOLON;
            state = AT_EQUALS;
        }

        private boolean startIf() {
            overfull = ifs >= MAX_IFS;
            ifs++;
            partEnd = Tokens.LESS;
            state = AT_UNIT;
            return true;
        }

        private boolean takeUnit(int kind) {
            if (kind == Tokens.OPEN) {
                overfull = nested >= MAX_NESTED;
                nested++;
                maker.open();
                state = AT_UNIT;
                return true;
            }
            state = BEHIND_UNIT;
            if (kind == Tokens.INT) {
                maker.addInt(tokens.number);
                return true;
            }
            if (kind >= Tokens.APART && kind <= Tokens.HAD) {
                maker.addVar(kind - Tokens.APART);
                return true;
            }
            return false;
        }

        private boolean goOnBehindUnit(int kind) {
            if (kind >= Tokens.PLUS && kind <= Tokens.OVER) {
                maker.addOperator(kind);
                state = AT_UNIT;
                return true;
            }
            if (kind == Tokens.CLOSE && nested > 0) {
                nested--;
                maker.close();
                return true;
            }
            return kind == partEnd && nested == 0 && endPart(kind);
        }

        private boolean endPart(int kind) {
            maker.release(LawMaker.SUM);
            state = AT_UNIT;
            if (kind == Tokens.LESS) {
                partEnd = Tokens.THEN;
            } else if (kind == Tokens.THEN) {
                maker.startChosen();
                partEnd = Tokens.ELSE;
            } else if (kind == Tokens.ELSE) {
                maker.endChosen();
                partEnd = Tokens.SEMICOLON;
                state = AT_LAW_PART;
            } else {
                state = AT_TELL;
            }
            return true;
        }
    }

    /** Turns a law's tokens into steps for a stack, with operators waiting until their right side stands. */
    private static final class LawMaker {
        /** Ranks: a bracket waits for its end alone, a product goes ahead of a sum. */
        static final int BRACKET = 0;
        static final int SUM = 1;
        static final int PRODUCT = 2;
        /** Six brackets, and in each of the seven levels one sum and one product that wait. */
        private static final int MAX_WAITING = 20;

        private final int[] waiting = new int[MAX_WAITING];
        private int waitingCount;
        /** A spare one at first, so that there always is one to write to. */
        private Law law = new Law();
        private int skipAt;

        void startLaw(Law newLaw) {
            law = newLaw == null ? law : newLaw;
            law.length = 0;
            waitingCount = 0;
            skipAt = 0;
        }

        void addInt(int number) {
            law.addStep(number);
        }

        void addVar(int variable) {
            law.addStep(Law.FIRST_VAR - variable);
        }

        void addOperator(int kind) {
            release(rank(kind));
            putOff(kind);
        }

        void open() {
            putOff(Tokens.OPEN);
        }

        void close() {
            release(SUM);
            waitingCount = Math.max(0, waitingCount - 1);
        }

        void startChosen() {
            skipAt = law.length;
            law.addStep(Law.SKIP);
        }

        void endChosen() {
            law.addStep(Law.STOP);
            law.skipFrom(skipAt);
        }

        private static int rank(int kind) {
            if (kind == Tokens.OPEN) {
                return BRACKET;
            }
            return kind == Tokens.PLUS || kind == Tokens.MINUS ? SUM : PRODUCT;
        }

        private void putOff(int kind) {
            if (waitingCount < MAX_WAITING) {
                waiting[waitingCount] = kind;
                waitingCount++;
            }
        }

        void release(int leastRank) {
            while (waitingCount > 0 && rank(waiting[waitingCount - 1]) >= leastRank) {
                waitingCount--;
                law.addStep(Law.ADD - (waiting[waitingCount] - Tokens.PLUS));
            }
        }
    }

    /** A law as a row of steps for a stack: what is 0 or more is a number, below it stands what to do. */
    private static final class Law {
        static final int FIRST_VAR = -1;
        static final int LAST_VAR = -9;
        static final int ADD = -10;
        static final int SUBTRACT = -11;
        static final int MULTIPLY = -12;
        static final int DIVIDE = -13;
        static final int STOP = -14;
        /** Unless the one is less than the other, so many steps are left out as this lies above the step. */
        static final int SKIP = -100;
        static final int MAX_STEPS = 400;
        static final int MAX_STACK = 32;

        final int[] steps = new int[MAX_STEPS];
        int length;

        void addStep(int step) {
            if (length < MAX_STEPS) {
                steps[length] = step;
                length++;
            }
        }

        void skipFrom(int at) {
            if (at >= 0 && at < length) {
                steps[at] = SKIP - (length - at - 1);
            }
        }

        int value(int[] vars, int[] stack) {
            int top = 0;
            for (int at = 0; at < length && steps[at] != STOP; at++) {
                int step = steps[at];
                if (step >= LAST_VAR) {
                    if (top >= stack.length) {
                        return 0;
                    }
                    stack[top] = step >= 0 ? step : vars[FIRST_VAR - step];
                    top++;
                    continue;
                }
                if (top < 2) {
                    return 0;
                }
                int left = stack[top - 2];
                int right = stack[top - 1];
                if (step <= SKIP) {
                    at += left < right ? 0 : SKIP - step;
                    top -= 2;
                    continue;
                }
                if (step == DIVIDE && right == 0) {
                    return 0;
                }
                top--;
                stack[top - 1] = combined(step, left, right);
            }
            return top > 0 ? stack[top - 1] : 0;
        }

        private static int combined(int step, int left, int right) {
            switch (step) {
                case ADD:
                    return left + right;
                case SUBTRACT:
                    return left - right;
                case MULTIPLY:
                    return left * right;
                default:
                    return right == 0 ? 0 : left / right;
            }
        }
    }

    /** What a text tells, and what its laws say of letters and readers. */
    private static final class Text {
        static final int WANT = 1;
        static final int GRIEF = 2;
        static final int COMES = 3;
        static final int READER_WANT = 0;
        static final int TASTE = 1;
        static final int PATIENCE = 2;

        private static final int LIKES = 0;
        private static final int RATHERS = 1;
        private static final int RETURNS = 2;
        private static final int ANSWERS = 3;
        private static final int LAWS = 4;

        private static final int VARS = 9;
        private static final int PATIENCE_VAR = 4;

        int letters;
        int readers;
        final int[][] letterMarks = new int[MAX_LETTERS][4];
        final int[][] readerMarks = new int[MAX_READERS][3];
        final int[] settings = new int[3];
        final Law[] laws = new Law[LAWS];
        private final long[] names = new long[MAX_LETTERS + MAX_READERS];
        private int nameCount;
        private final int[] vars = new int[VARS];
        private final int[] stack = new int[Law.MAX_STACK];

        Text() {
            for (int which = 0; which < LAWS; which++) {
                laws[which] = new Law();
            }
        }

        void clear() {
            letters = 0;
            readers = 0;
            nameCount = 0;
            for (int i = 0; i < settings.length; i++) {
                settings[i] = 0;
            }
            for (int which = 0; which < LAWS; which++) {
                laws[which].length = 0;
            }
            laws[LIKES].addStep(10);
            laws[LIKES].addStep(Law.FIRST_VAR);
            laws[LIKES].addStep(Law.SUBTRACT);
            laws[RATHERS].addStep(Law.FIRST_VAR - PATIENCE_VAR);
            laws[RETURNS].addStep(0);
            laws[ANSWERS].addStep(0);
        }

        int turns() {
            return settings[0];
        }

        int wet() {
            return settings[1];
        }

        int seed() {
            return settings[2];
        }

        /** Without it all seeds go the same way. */
        boolean hasChanceOfWet() {
            return wet() > 0 && wet() < 100;
        }

        boolean hasName(long name) {
            for (int i = 0; i < nameCount; i++) {
                if (names[i] == name) {
                    return true;
                }
            }
            return false;
        }

        void addName(long name) {
            if (nameCount < names.length) {
                names[nameCount] = name;
                nameCount++;
            }
        }

        int ageOn(int letter, int day) {
            return Math.max(0, day - letterMarks[letter][COMES]);
        }

        boolean cameEarlier(int letter, int other) {
            return letterMarks[letter][COMES] < letterMarks[other][COMES];
        }

        int likesOf(Office office, int letter, int reader) {
            setVars(office, letter, reader);
            return held(laws[LIKES].value(vars, stack));
        }

        int rathersOf(Office office, int letter, int reader) {
            setVars(office, letter, reader);
            return held(laws[RATHERS].value(vars, stack));
        }

        boolean isReturned(Office office, int letter, int reader) {
            setVars(office, letter, reader);
            return laws[RETURNS].value(vars, stack) > 0;
        }

        boolean isAnswered(int earlier, int later, int day) {
            int[] before = letterMarks[earlier];
            int[] behind = letterMarks[later];
            vars[0] = Math.abs(behind[WANT] - before[WANT]);
            vars[1] = behind[0];
            vars[2] = behind[GRIEF];
            vars[3] = before[0];
            vars[4] = before[GRIEF];
            vars[5] = behind[COMES] - before[COMES];
            vars[6] = day;
            vars[7] = later;
            vars[8] = 0;
            return laws[ANSWERS].value(vars, stack) > 0;
        }

        int allLikes(Office office) {
            int sum = 0;
            for (int reader = 0; reader < readers; reader++) {
                if (office.has[reader] != NOBODY) {
                    sum += likesOf(office, office.has[reader], reader);
                }
            }
            return sum;
        }

        private void setVars(Office office, int letter, int reader) {
            int[] marks = letterMarks[letter];
            vars[0] = Math.abs(marks[WANT] - office.want[reader]);
            vars[1] = marks[0];
            vars[2] = marks[GRIEF];
            vars[3] = readerMarks[reader][TASTE];
            vars[4] = readerMarks[reader][PATIENCE];
            vars[5] = Math.max(0, office.day - marks[COMES]);
            vars[6] = office.day;
            vars[7] = reader;
            vars[8] = office.had[reader];
        }

        private static int held(int value) {
            return Math.max(0, Math.min(MAX_LIKES, value));
        }
    }

    /** All that goes on: the day, where letters are, what readers want, have and had. */
    private static final class Office {
        static final int TO_COME = 0;
        static final int SHELF = 1;
        static final int WITH_READER = 2;
        static final int BURNT = 3;

        int day;
        final int[] where = new int[MAX_LETTERS];
        final int[] holder = new int[MAX_LETTERS];
        final int[] sentBack = new int[MAX_LETTERS];
        final int[] want = new int[MAX_READERS];
        final int[] has = new int[MAX_READERS];
        final int[] had = new int[MAX_READERS];

        void open(Text text) {
            day = 0;
            for (int letter = 0; letter < MAX_LETTERS; letter++) {
                where[letter] = TO_COME;
                holder[letter] = NOBODY;
                sentBack[letter] = 0;
            }
            for (int reader = 0; reader < MAX_READERS; reader++) {
                want[reader] = text.readerMarks[reader][Text.READER_WANT];
                has[reader] = NOBODY;
                had[reader] = 0;
            }
        }

        void copyFrom(Office other) {
            day = other.day;
            System.arraycopy(other.where, 0, where, 0, MAX_LETTERS);
            System.arraycopy(other.holder, 0, holder, 0, MAX_LETTERS);
            System.arraycopy(other.sentBack, 0, sentBack, 0, MAX_LETTERS);
            System.arraycopy(other.want, 0, want, 0, MAX_READERS);
            System.arraycopy(other.has, 0, has, 0, MAX_READERS);
            System.arraycopy(other.had, 0, had, 0, MAX_READERS);
        }

        void giveTo(int letter, int reader) {
            where[letter] = WITH_READER;
            holder[letter] = reader;
            has[reader] = letter;
            had[reader]++;
        }

        void takeFromReader(int letter, int newPlace) {
            if (holder[letter] != NOBODY) {
                has[holder[letter]] = NOBODY;
            }
            holder[letter] = NOBODY;
            where[letter] = newPlace;
        }

        void passDay(Text text, int seed, int wet) {
            if (!isWet(seed, day, wet)) {
                bringLetters(text);
            }
            returnLetters(text);
            sendLetters(text);
            if (text.turns() > 0 && (day + 1) % text.turns() == 0) {
                turnWants(text.readers);
            }
            day++;
        }

        private void bringLetters(Text text) {
            for (int letter = 0; letter < text.letters; letter++) {
                if (where[letter] == TO_COME && text.letterMarks[letter][Text.COMES] <= day) {
                    where[letter] = SHELF;
                }
            }
        }

        /** Asked of all letters ahead of moving one, as returns look at the day's beginning. */
        private void returnLetters(Text text) {
            int returned = 0;
            for (int letter = 0; letter < text.letters; letter++) {
                if (where[letter] == WITH_READER && text.isReturned(this, letter, holder[letter])) {
                    returned |= 1 << letter;
                }
            }
            for (int letter = 0; letter < text.letters; letter++) {
                if ((returned & 1 << letter) != 0) {
                    sentBack[letter]++;
                    takeFromReader(letter, sentBack[letter] >= 2 ? BURNT : SHELF);
                }
            }
        }

        private void sendLetters(Text text) {
            for (int letter = 0; letter < text.letters; letter++) {
                if (where[letter] == SHELF) {
                    int reader = whoLikesMost(text, letter);
                    if (reader != NOBODY) {
                        giveTo(letter, reader);
                    }
                }
            }
        }

        private int whoLikesMost(Text text, int letter) {
            int best = NOBODY;
            int most = 0;
            for (int reader = 0; reader < text.readers; reader++) {
                if (has[reader] == NOBODY) {
                    int liking = text.likesOf(this, letter, reader);
                    if (liking > most) {
                        best = reader;
                        most = liking;
                    }
                }
            }
            return best;
        }

        private void turnWants(int readers) {
            for (int reader = 0; reader < readers; reader++) {
                want[reader] = (want[reader] + 1) % 10;
            }
        }

        static boolean isWet(int seed, int day, int wet) {
            return lot(100, seed, 4 * day) < wet;
        }

        private static int lot(int n, int seed, int whichLot) {
            int h = stirred(stirred(seed, 149), whichLot);
            return n > 0 ? (h >>> 1) % n : 0;
        }

        private static int stirred(int h, int with) {
            int product = (h ^ with) * 1103515245 + 12345;
            return product ^ product >>> 15;
        }

        int lettersAt(int place, int letters) {
            int bits = 0;
            for (int letter = 0; letter < letters; letter++) {
                if (where[letter] == place) {
                    bits |= 1 << letter;
                }
            }
            return bits;
        }

        int freeReaders(int readers) {
            int bits = 0;
            for (int reader = 0; reader < readers; reader++) {
                if (has[reader] == NOBODY) {
                    bits |= 1 << reader;
                }
            }
            return bits;
        }

        int allSentBack(int letters) {
            int sum = 0;
            for (int letter = 0; letter < letters; letter++) {
                sum += sentBack[letter];
            }
            return sum;
        }

        int allHad(int readers) {
            int sum = 0;
            for (int reader = 0; reader < readers; reader++) {
                sum += had[reader];
            }
            return sum;
        }
    }

    /** What was ahead of the last things done, in a ring that forgets the oldest. */
    private static final class History {
        private static final int MAX_UNDONE = 40;

        private final Office[] past = new Office[MAX_UNDONE];
        private int newest;
        int size;

        History() {
            for (int i = 0; i < MAX_UNDONE; i++) {
                past[i] = new Office();
            }
        }

        void remember(Office office) {
            newest = (newest + 1) % MAX_UNDONE;
            past[newest].copyFrom(office);
            size = Math.min(size + 1, MAX_UNDONE);
        }

        boolean recall(Office office) {
            if (size == 0) {
                return false;
            }
            office.copyFrom(past[newest]);
            newest = (newest + MAX_UNDONE - 1) % MAX_UNDONE;
            size--;
            return true;
        }
    }

    /** What the shelf's letters would be dealt as: liked most, added, or so that none would leave. */
    private static final class Dealing {
        private static final int READER_SETS = 1 << MAX_READERS;

        /** A liking of 0 stands for each pair that cannot be, as a reader who likes it by 0 gets none. */
        private final int[][] liking = new int[MAX_LETTERS][MAX_READERS];
        /** The most for the letters from one on, once a set of readers is taken. */
        private final int[][] most = new int[MAX_LETTERS + 1][READER_SETS];
        private final int[][] rathers = new int[MAX_LETTERS][MAX_READERS];
        /** Of each letter the readers whom it may still ask (bits). */
        private final int[] unasked = new int[MAX_LETTERS];
        private final int[] kept = new int[MAX_READERS];
        final int[] whom = new int[MAX_LETTERS];
        int total;

        void dealBest(Text text, Office office) {
            weigh(text, office);
            Arrays.fill(most[text.letters], 0);
            for (int letter = text.letters - 1; letter >= 0; letter--) {
                for (int taken = 0; taken < READER_SETS; taken++) {
                    most[letter][taken] = mostFrom(letter, taken, text.readers);
                }
            }
            total = most[0][0];
            chooseFirst(text);
        }

        void dealByAsking(Text text, Office office) {
            weigh(text, office);
            for (int letter = 0; letter < text.letters; letter++) {
                startAsking(text, office, letter);
            }
            Arrays.fill(kept, NONE);
            for (int asks = 0; asks < MAX_LETTERS * MAX_READERS; asks++) {
                int letter = whoAsks(text.letters);
                if (letter == NONE) {
                    return;
                }
                ask(letter, whomItWouldRather(letter, text.readers));
            }
        }

        private void weigh(Text text, Office office) {
            for (int letter = 0; letter < text.letters; letter++) {
                whom[letter] = NOBODY;
                for (int reader = 0; reader < text.readers; reader++) {
                    boolean open = office.where[letter] == Office.SHELF && office.has[reader] == NOBODY;
                    liking[letter][reader] = open ? text.likesOf(office, letter, reader) : 0;
                }
            }
        }

        private int mostFrom(int letter, int taken, int readers) {
            int best = most[letter + 1][taken];
            for (int reader = 0; reader < readers; reader++) {
                if (canHave(letter, reader, taken)) {
                    best = Math.max(best, mostWith(letter, reader, taken));
                }
            }
            return best;
        }

        private boolean canHave(int letter, int reader, int taken) {
            return liking[letter][reader] > 0 && (taken & 1 << reader) == 0;
        }

        private int mostWith(int letter, int reader, int taken) {
            return liking[letter][reader] + most[letter + 1][taken | 1 << reader];
        }

        private void chooseFirst(Text text) {
            int taken = 0;
            for (int letter = 0; letter < text.letters; letter++) {
                for (int reader = 0; reader < text.readers && whom[letter] == NOBODY; reader++) {
                    if (canHave(letter, reader, taken)
                            && mostWith(letter, reader, taken) == most[letter][taken]) {
                        whom[letter] = reader;
                    }
                }
                taken |= whom[letter] == NOBODY ? 0 : 1 << whom[letter];
            }
        }

        private void startAsking(Text text, Office office, int letter) {
            unasked[letter] = 0;
            for (int reader = 0; reader < text.readers; reader++) {
                if (liking[letter][reader] > 0) {
                    rathers[letter][reader] = text.rathersOf(office, letter, reader);
                    unasked[letter] |= 1 << reader;
                }
            }
        }

        private int whoAsks(int letters) {
            for (int letter = 0; letter < letters; letter++) {
                if (whom[letter] == NOBODY && unasked[letter] != 0) {
                    return letter;
                }
            }
            return NONE;
        }

        private int whomItWouldRather(int letter, int readers) {
            int best = NONE;
            for (int reader = 0; reader < readers; reader++) {
                boolean open = (unasked[letter] & 1 << reader) != 0;
                if (open && (best == NONE || rathers[letter][reader] > rathers[letter][best])) {
                    best = reader;
                }
            }
            return best;
        }

        private void ask(int letter, int reader) {
            if (reader == NONE) {
                return;
            }
            unasked[letter] &= ~(1 << reader);
            int rival = kept[reader];
            if (rival == NONE) {
                kept[reader] = letter;
                whom[letter] = reader;
            } else if (isLikedMore(letter, rival, reader)) {
                whom[rival] = NOBODY;
                kept[reader] = letter;
                whom[letter] = reader;
            }
        }

        private boolean isLikedMore(int letter, int rival, int reader) {
            int more = liking[letter][reader] - liking[rival][reader];
            return more > 0 || more == 0 && letter < rival;
        }
    }

    /** Which letters answer which: the longest chain, and all that hang together. */
    private static final class Answering {
        /** Of each letter those that answer it (bits). */
        private final int[] answeredBy = new int[MAX_LETTERS];
        private final int[] longestFrom = new int[MAX_LETTERS];
        final int[] chainRow = new int[MAX_LETTERS];
        int chainLength;

        void findChain(Text text, Office office) {
            int there = 0;
            for (int letter = 0; letter < text.letters; letter++) {
                there |= office.where[letter] == Office.BURNT ? 0 : 1 << letter;
            }
            link(text, office.day, there);
            measure(text.letters, there);
            follow(text.letters, there);
        }

        int tiedTo(int letter, Text text, int day) {
            link(text, day, (1 << text.letters) - 1);
            int bundle = 1 << letter;
            for (int round = 0; round < text.letters; round++) {
                for (int other = 0; other < text.letters; other++) {
                    boolean inside = (bundle & 1 << other) != 0;
                    if (inside) {
                        bundle |= answeredBy[other];
                    } else if ((bundle & answeredBy[other]) != 0) {
                        bundle |= 1 << other;
                    }
                }
            }
            return bundle;
        }

        private void link(Text text, int day, int there) {
            for (int letter = 0; letter < text.letters; letter++) {
                answeredBy[letter] = 0;
                for (int other = 0; other < text.letters; other++) {
                    boolean both = (there & 1 << letter) != 0 && (there & 1 << other) != 0;
                    if (both && text.cameEarlier(letter, other) && text.isAnswered(letter, other, day)) {
                        answeredBy[letter] |= 1 << other;
                    }
                }
            }
        }

        /** As many rounds as letters: no chain is longer, since each one came later than the one ahead. */
        private void measure(int letters, int there) {
            for (int letter = 0; letter < letters; letter++) {
                longestFrom[letter] = (there & 1 << letter) != 0 ? 1 : 0;
            }
            for (int round = 0; round < letters; round++) {
                for (int letter = 0; letter < letters; letter++) {
                    for (int other = 0; other < letters; other++) {
                        if ((answeredBy[letter] & 1 << other) != 0) {
                            longestFrom[letter] = Math.max(longestFrom[letter], longestFrom[other] + 1);
                        }
                    }
                }
            }
        }

        private void follow(int letters, int there) {
            chainLength = 0;
            for (int letter = 0; letter < letters; letter++) {
                chainLength = Math.max(chainLength, longestFrom[letter]);
            }
            int open = there;
            for (int i = 0; i < chainLength && i < MAX_LETTERS; i++) {
                chainRow[i] = lowestWith(chainLength - i, open, letters);
                open = chainRow[i] == NONE ? 0 : answeredBy[chainRow[i]];
            }
        }

        private int lowestWith(int length, int open, int letters) {
            for (int letter = 0; letter < letters; letter++) {
                if ((open & 1 << letter) != 0 && longestFrom[letter] == length) {
                    return letter;
                }
            }
            return NONE;
        }
    }

    /** What was told of a letter unknown, and what is best read next. */
    private static final class Told {
        static final int MARKS = 3;
        static final int MAX_VALUE = 9;
        private static final int MAX_TOLD = 20;

        private final int[] marks = new int[MAX_TOLD];
        private final int[] values = new int[MAX_TOLD];
        private final boolean[] holds = new boolean[MAX_TOLD];
        int size;

        boolean isFull() {
            return size >= MAX_TOLD;
        }

        int add(int mark, int value, boolean so) {
            if (isFull()) {
                return NONE;
            }
            marks[size] = mark;
            values[size] = value;
            holds[size] = so;
            size++;
            return size - 1;
        }

        int lettersLeft(Text text, int known) {
            int bits = (1 << text.letters) - 1;
            for (int i = 0; i < known && i < size; i++) {
                int reaching = lettersReaching(text, marks[i], values[i]);
                bits &= holds[i] ? reaching : ~reaching;
            }
            return bits;
        }

        static int bestQuestion(Text text, int left) {
            if (left == 0) {
                return NOBODY;
            }
            int best = NOBODY;
            int fewest = MAX_LETTERS + 1;
            for (int mark = 0; mark < MARKS; mark++) {
                for (int value = 1; value <= MAX_VALUE; value++) {
                    int reaching = lettersReaching(text, mark, value);
                    int worst = Math.max(Integer.bitCount(left & reaching), Integer.bitCount(left & ~reaching));
                    if (worst < fewest) {
                        best = 10 * mark + value;
                        fewest = worst;
                    }
                }
            }
            return best;
        }

        private static int lettersReaching(Text text, int mark, int value) {
            int bits = 0;
            for (int letter = 0; letter < text.letters; letter++) {
                if (text.letterMarks[letter][mark] >= value) {
                    bits |= 1 << letter;
                }
            }
            return bits;
        }
    }
}
