import java.util.NoSuchElementException;

/**
 * A small spacecraft: its units are made from a text, layer by layer, and then it is flown tick by tick.
 * The words in the comments are those of the document.
 */
public final class SmallCraft {
    public static final int NONE = -1;

    // The layers by their codes.
    private static final int UNIT = 0;
    private static final int STORE = 1;
    private static final int BATTERY = 2;
    private static final int CELLPACK = 3;
    private static final int TANK = 4;
    private static final int RECORDER = 5;
    private static final int LOAD = 6;
    private static final int HEATER = 7;
    private static final int THERMO = 8;
    private static final int SENSOR = 9;
    private static final int GYRO = 10;
    private static final int FINEGYRO = 11;
    private static final int SUNEYE = 12;
    private static final int PROBE = 13;
    private static final int CAMERA = 14;
    private static final int ACTUATOR = 15;
    private static final int WHEEL = 16;
    private static final int COIL = 17;
    private static final int JET = 18;
    private static final int PULSER = 19;
    private static final int RADIO = 20;
    private static final int BEACON = 21;
    private static final int SOURCE = 22;
    private static final int PANEL = 23;
    private static final int TRACKER = 24;
    private static final int GENERATOR = 25;
    private static final int LINK = 26;
    private static final int PIPE = 27;
    private static final int HOSE = 28;

    // By a layer's code the one that it stands on: always a lesser code, so that a way down ends.
    private static final int[] LAYER_BELOW = {
        -1, 0, 1, 2, 1, 1, 0, 6, 7, 6, 9, 10, 9, 9, 9, 6, 15, 15, 15, 18, 6, 20, 0, 22, 23, 22, 0, 26, 26
    };
    private static final int MOST_LAYERS = 5;

    // The parts of a unit by their numbers in part().
    private static final int NAMED = 0;
    private static final int NUMBER = 1;
    private static final int SERIAL = 2;
    private static final int MASS = 3;
    private static final int BASE = 4;
    private static final int WIDTH = 5;
    private static final int COLD = 6;
    private static final int SEAL = 7;
    private static final int SPARE = 8;
    private static final int ROOM = 9;
    private static final int LEVEL = 10;
    private static final int WEAR = 11;
    private static final int GRADE = 12;
    private static final int TOP = 13;
    private static final int PAIRS = 14;
    private static final int CAP = 15;
    private static final int CELLS = 16;
    private static final int VALVE = 17;
    private static final int PAGES = 18;
    private static final int FIRST = 19;
    private static final int KEEP = 20;
    private static final int LINE = 21;
    private static final int ON = 22;
    private static final int WATTS = 23;
    private static final int SHARE = 24;
    private static final int GLOW = 25;
    private static final int BAND = 26;
    private static final int OF = 27;
    private static final int TARGET = 28;
    private static final int NOISE = 29;
    private static final int CHANNELS = 30;
    private static final int EVERY = 31;
    private static final int READING = 32;
    private static final int DRIFT = 33;
    private static final int AXES = 34;
    private static final int AXIS = 35;
    private static final int FINE = 36;
    private static final int WIDE = 37;
    private static final int SHIFT = 38;
    private static final int LENS = 39;
    private static final int SHOTS = 40;
    private static final int KICK = 41;
    private static final int PUSH = 42;
    private static final int MOST = 43;
    private static final int SPEED = 44;
    private static final int TURNS = 45;
    private static final int POLE = 46;
    private static final int GAS = 47;
    private static final int BEAT = 48;
    private static final int TONE = 49;
    private static final int RATE = 50;
    private static final int SENT = 51;
    private static final int WIRE = 52;
    private static final int TURN = 53;
    private static final int FACE = 54;
    private static final int STEP = 55;
    private static final int AT = 56;
    private static final int ROD = 57;
    private static final int TWIST = 58;
    private static final int ONE = 59;
    private static final int OTHER = 60;
    private static final int FLOW = 61;
    private static final int HEAT = 62;
    private static final int BROKEN = 63;
    private static final int STUBBORN = 64;
    private static final int PART_COUNT = 65;

    // By a part's number the layer that brings it; those that several layers bring are told in Unit.owns().
    private static final int[] PART_LAYER = {
        0, 0, 0, 0, 0, 0, 0, 1, 1, 1, 1, 2, 2, 2, 3, 3, 3, 4, 5, 5, 5, 6, 6, 6, 6, 7, 8, 8, 8, 9, 9, 9, 9,
        10, 10, 10, 11, 12, 13, 14, 14, 15, 15, 16, 16, 17, 17, 18, 19, 20, 20, 20, 22, 23, 23, 24, 24, 25,
        26, 26, 26, 27, 0, 0, 0
    };

    // The questions by their numbers in ask().
    private static final int ASK_MASS = 0;
    private static final int ASK_SPAN = 1;
    private static final int ASK_NEED = 2;
    private static final int ASK_TEST = 3;
    private static final int ASK_CHANNELS = 4;
    private static final int ASK_PUSH = 5;

    // The acts by their numbers in command().
    private static final int ACT_ON = 0;
    private static final int ACT_OFF = 1;
    private static final int ACT_MODE = 2;
    private static final int ACT_AIM = 3;
    private static final int ACT_RESTART = 4;
    private static final int ACT_WIPE = 5;
    private static final int ACT_STOP = 6;

    // The faults of a text.
    private static final int BAD_BYTE = 1;
    private static final int BAD_TOKEN = 2;
    private static final int BAD_NAME = 3;
    private static final int TOO_MANY = 4;
    private static final int BAD_NUMBER = 5;

    private static final int MOST_UNITS = 20;
    private static final int MOST_ITEMS = 30;
    private static final int MOST_TICKS = 1000;
    private static final int LARGEST_ROOM = 2000;
    private static final int CIRCLE = 3600;
    private static final int AXIS_COUNT = 3;
    private static final int BLIND = 9999;

    private final Text text;
    private final Book book;
    private final Yard yard;
    private final Flight flight;
    private Plan draft;

    public SmallCraft() {
        text = new Text();
        book = new Book();
        yard = new Yard();
        flight = new Flight(yard);
        draft = new Plan();
    }

    public int feed(int a, int b, int c, int d, int e) {
        if (!text.hasPlaceFor(20)) {
            return NONE;
        }
        text.append(a);
        text.append(b);
        text.append(c);
        text.append(d);
        text.append(e);
        return text.size();
    }

    public int load(int n) throws IllegalArgumentException {
        if (n < 0 || n > text.size()) {
            throw new IllegalArgumentException("no such length");
        }
        text.begin(n);
        boolean good = book.readFrom(text);
        text.empty();
        if (!good) {
            return NONE;
        }
        yard.build(book);
        flight.begin();
        return yard.size();
    }

    public int plan(int n) throws IllegalArgumentException {
        if (n < 0 || n > text.size()) {
            throw new IllegalArgumentException("no such length");
        }
        text.begin(n);
        boolean good = draft.readFrom(text, yard);
        text.empty();
        if (!good) {
            return NONE;
        }
        draft = flight.exchangePlan(draft);
        return flight.planned().size();
    }

    public int fault(int what) {
        if (what == 0) {
            return text.faultCode();
        }
        return what == 1 ? text.faultPlace() : NONE;
    }

    public int run(int n) throws IllegalStateException, IllegalArgumentException {
        if (yard.size() == 0) {
            throw new IllegalStateException("no units");
        }
        if (n < 0 || n > MOST_TICKS) {
            throw new IllegalArgumentException("no such number of ticks");
        }
        for (int i = 0; i < n; i++) {
            flight.tick();
        }
        return flight.ticksSoFar();
    }

    public boolean command(int act, int a, int b) throws IllegalArgumentException {
        if (yard.size() == 0 || !isAct(act, a, b)) {
            throw new IllegalArgumentException("no such act");
        }
        return flight.perform(act, a, b);
    }

    public int part(int unit, int what) throws IndexOutOfBoundsException, NoSuchElementException {
        checkUnit(unit);
        Unit it = yard.unitAt(unit);
        if (!it.owns(what)) {
            throw new NoSuchElementException("no such part");
        }
        return it.get(what);
    }

    public int ask(int unit, int question) throws IndexOutOfBoundsException, NoSuchElementException {
        checkUnit(unit);
        Unit it = yard.unitAt(unit);
        if (!it.tells(question)) {
            throw new NoSuchElementException("no such question");
        }
        return it.answer(question);
    }

    public int note(int i, int what) throws NoSuchElementException {
        if (!yard.hasNote(i) || what < 0 || what > 2) {
            throw new NoSuchElementException("no such note");
        }
        return yard.noteValue(i, what);
    }

    public int at(int address) {
        return yard.unitWithAddress(address);
    }

    public int name(int unit, int k) throws IndexOutOfBoundsException {
        checkUnit(unit);
        if (k < 0) {
            throw new IndexOutOfBoundsException("no such letter");
        }
        int letter = letterOf(yard.unitAt(unit).title(), k);
        return letter == 0 ? NONE : letter;
    }

    public int kept(int unit, int i) throws IndexOutOfBoundsException, IllegalArgumentException {
        checkUnit(unit);
        Unit it = yard.unitAt(unit);
        if (!it.is(RECORDER)) {
            throw new IllegalArgumentException("no recorder");
        }
        return it.keptByte(i);
    }

    public int down(int i) {
        return flight.downlink().latest(i);
    }

    public int item(int i, int what) {
        Plan current = flight.planned();
        if (i < 0 || i >= current.size()) {
            return NONE;
        }
        Item it = current.itemAt(i);
        switch (what) {
            case 0:
                return it.dueCount;
            case 1:
                return it.refusedCount;
            case 2:
                return it.stopped ? 1 : 0;
            default:
                return NONE;
        }
    }

    public int craft(int what) {
        switch (what) {
            case 0:
                return yard.size();
            case 12:
                return yard.drawsTaken();
            case 13:
                return yard.addressNow();
            case 14:
                return yard.reserveNow();
            case 15:
                return yard.notesTaken();
            case 20:
                return flight.downlink().byteCount();
            case 23:
                return yard.restartsDone();
            case 24:
                return flight.planned().size();
            default:
                return what >= 3 && what <= 11 ? flight.steering().value(what - 3) : flight.gauge(what);
        }
    }

    private void checkUnit(int unit) throws IndexOutOfBoundsException {
        if (!yard.has(unit)) {
            throw new IndexOutOfBoundsException("no such unit");
        }
    }

    private boolean isAct(int act, int a, int b) {
        switch (act) {
            case ACT_ON:
            case ACT_OFF:
            case ACT_RESTART:
                return yard.has(a);
            case ACT_WIPE:
                return yard.has(a) && yard.unitAt(a).is(RECORDER);
            case ACT_MODE:
                return within(a, 0, 3);
            case ACT_AIM:
                return within(a, 0, AXIS_COUNT - 1) && within(b, 0, CIRCLE - 1);
            case ACT_STOP:
                return within(a, 0, MOST_ITEMS - 1);
            default:
                return false;
        }
    }

    private static boolean within(int x, int least, int greatest) {
        return x >= least && x <= greatest;
    }

    private static int limit(int x, int least, int greatest) {
        if (x < least) {
            return least;
        }
        return x > greatest ? greatest : x;
    }

    /** OFF of the document: the way from angle a to angle b, from -1800 to 1799. */
    private static int off(int a, int b) {
        return Math.floorMod(b - a + CIRCLE / 2, CIRCLE) - CIRCLE / 2;
    }

    /** Whether t is a multiple of step; a step that is not above 0 has none. */
    private static boolean isMultiple(int t, int step) {
        return step > 0 && Math.floorMod(t, step) == 0;
    }

    /** Letter k of a word that is held in a long, eight bits a letter, the first lowest; 0 behind its end. */
    private static int letterOf(long word, int k) {
        return within(k, 0, 7) ? (int) (word >>> (8 * k)) & 255 : 0;
    }

    /** The tape, and the tokens of a text on it, each read as it is wanted. */
    private static final class Text {
        private static final int MOST_BYTES = 4000;
        private static final int TYPE_END = 0;
        private static final int TYPE_WORD = 1;
        private static final int TYPE_NUMBER = 2;
        private static final int TYPE_SIGN = 3;
        private static final int TYPE_BAD = 4;

        private final int[] bytes = new int[MOST_BYTES];
        private int length;
        private int end;
        private int spot;
        private int type;
        private int start;
        private int value;
        private long word;
        private int fault;
        private int place = NONE;

        int size() {
            return length;
        }

        void empty() {
            length = 0;
        }

        boolean hasPlaceFor(int more) {
            return length + more <= MOST_BYTES;
        }

        void append(int four) {
            for (int shift = 24; shift >= 0 && length < bytes.length; shift -= 8) {
                bytes[length] = four >>> shift & 255;
                length++;
            }
        }

        void begin(int n) {
            end = n;
            spot = 0;
            fault = 0;
            place = NONE;
        }

        int faultCode() {
            return fault;
        }

        int faultPlace() {
            return place;
        }

        int number() {
            return value;
        }

        long wordRead() {
            return word;
        }

        boolean isEnd() {
            return type == TYPE_END;
        }

        boolean isSign(int sign) {
            return type == TYPE_SIGN && value == sign;
        }

        boolean isWord(String letters) {
            if (type != TYPE_WORD || letterOf(word, letters.length()) != 0) {
                return false;
            }
            for (int k = 0; k < letters.length(); k++) {
                if (letterOf(word, k) != letters.charAt(k)) {
                    return false;
                }
            }
            return true;
        }

        /** Tells a fault at the token that was read last, unless its own bytes were at fault; always false. */
        boolean refuse(int code) {
            if (type != TYPE_BAD) {
                fault = code;
                place = start;
            }
            return false;
        }

        boolean takeWord() {
            next();
            return type == TYPE_WORD || refuse(BAD_TOKEN);
        }

        boolean takeNumber() {
            next();
            return type == TYPE_NUMBER || refuse(BAD_TOKEN);
        }

        boolean takeNumber(int least, int greatest) {
            return takeNumber() && (within(value, least, greatest) || refuse(BAD_NUMBER));
        }

        boolean takeSign(int sign) {
            next();
            return isSign(sign) || refuse(BAD_TOKEN);
        }

        void next() {
            while (spot < end && isBlank(byteAt(spot))) {
                spot++;
            }
            start = spot;
            int first = byteAt(spot);
            if (first == NONE) {
                type = TYPE_END;
            } else if (isLetter(first)) {
                readWord();
            } else if (isDigit(first) || first == '-') {
                readNumber();
            } else if (first == ';' || first == '<' || first == '>') {
                type = TYPE_SIGN;
                value = first;
                spot++;
            } else {
                spoil();
            }
        }

        private void readWord() {
            type = TYPE_WORD;
            word = 0;
            for (int k = 0; k < 8 && isLetterOrDigit(byteAt(spot)); k++) {
                word |= (long) byteAt(spot) << (8 * k);
                spot++;
            }
            if (isLetterOrDigit(byteAt(spot))) {
                spoil();
            }
        }

        private void readNumber() {
            boolean negative = byteAt(spot) == '-';
            if (negative) {
                spot++;
            }
            type = TYPE_NUMBER;
            value = 0;
            int digits = 0;
            for (; digits < 5 && isDigit(byteAt(spot)); digits++) {
                value = value * 10 + byteAt(spot) - '0';
                spot++;
            }
            if (negative) {
                value = -value;
            }
            if (digits == 0 || isDigit(byteAt(spot))) {
                spoil();
            }
        }

        private void spoil() {
            type = TYPE_BAD;
            fault = BAD_BYTE;
            place = spot;
        }

        private int byteAt(int i) {
            return i >= 0 && i < end && i < bytes.length ? bytes[i] : NONE;
        }

        private static boolean isBlank(int b) {
            return b == 32 || b == 10;
        }

        private static boolean isLetter(int b) {
            return b >= 'a' && b <= 'z';
        }

        private static boolean isDigit(int b) {
            return b >= '0' && b <= '9';
        }

        private static boolean isLetterOrDigit(int b) {
            return isLetter(b) || isDigit(b);
        }
    }

    /** The words that a unit can be told by in a book, each with its layer and the forms of its numbers. */
    private enum Kind {
        BATTERIES("battery", BATTERY, Book.FORM_ROOM, Book.FORM_NONE, Book.FORM_NONE),
        CELLPACKS("cellpack", CELLPACK, Book.FORM_ROOM, Book.FORM_CELLS, Book.FORM_NONE),
        TANKS("tank", TANK, Book.FORM_ROOM, Book.FORM_NONE, Book.FORM_NONE),
        RECORDERS("recorder", RECORDER, Book.FORM_PAGES, Book.FORM_NONE, Book.FORM_NONE),
        HEATERS("heater", HEATER, Book.FORM_FIFTY, Book.FORM_NONE, Book.FORM_NONE),
        THERMOS("thermo", THERMO, Book.FORM_FIFTY, Book.FORM_UNIT, Book.FORM_TARGET),
        GYROS("gyro", GYRO, Book.FORM_FIFTY, Book.FORM_FIFTY, Book.FORM_AXIS),
        FINEGYROS("finegyro", FINEGYRO, Book.FORM_FIFTY, Book.FORM_FIFTY, Book.FORM_AXIS),
        SUNEYES("suneye", SUNEYE, Book.FORM_FIFTY, Book.FORM_FIFTY, Book.FORM_NONE),
        PROBES("probe", PROBE, Book.FORM_FIFTY, Book.FORM_FIFTY, Book.FORM_UNIT),
        CAMERAS("camera", CAMERA, Book.FORM_FIFTY, Book.FORM_FIFTY, Book.FORM_RECORDER),
        WHEELS("wheel", WHEEL, Book.FORM_FIFTY, Book.FORM_AXIS, Book.FORM_NONE),
        COILS("coil", COIL, Book.FORM_FIFTY, Book.FORM_AXIS, Book.FORM_NONE),
        JETS("jet", JET, Book.FORM_FIFTY, Book.FORM_AXIS, Book.FORM_TANK),
        PULSERS("pulser", PULSER, Book.FORM_FIFTY, Book.FORM_AXIS, Book.FORM_TANK),
        RADIOS("radio", RADIO, Book.FORM_FIFTY, Book.FORM_RATE, Book.FORM_NONE),
        BEACONS("beacon", BEACON, Book.FORM_FIFTY, Book.FORM_RATE, Book.FORM_NONE),
        PANELS("panel", PANEL, Book.FORM_POWER, Book.FORM_FACE, Book.FORM_NONE),
        TRACKERS("tracker", TRACKER, Book.FORM_POWER, Book.FORM_FACE, Book.FORM_NONE),
        REACTORS("reactor", GENERATOR, Book.FORM_POWER, Book.FORM_TANK, Book.FORM_NONE),
        PIPES("pipe", PIPE, Book.FORM_UNIT, Book.FORM_UNIT, Book.FORM_NONE),
        HOSES("hose", HOSE, Book.FORM_TANK, Book.FORM_TANK, Book.FORM_FLOW);

        private static final Kind[] ALL = values();

        private final String word;
        private final int layer;
        private final int form1;
        private final int form2;
        private final int form3;

        Kind(String word, int layer, int form1, int form2, int form3) {
            this.word = word;
            this.layer = layer;
            this.form1 = form1;
            this.form2 = form2;
            this.form3 = form3;
        }

        int formOf(int k) {
            if (k == 0) {
                return form1;
            }
            return k == 1 ? form2 : form3;
        }

        /** The kind whose word was read last; null if it is none. */
        static Kind readIn(Text text) {
            for (int i = 0; i < ALL.length; i++) {
                if (text.isWord(ALL[i].word)) {
                    return ALL[i];
                }
            }
            return null;
        }
    }

    /** What was read of a book: it is filled ahead of any change, so that a fault leaves the units alone. */
    private static final class Book {
        private static final int FORM_NONE = 0;
        private static final int FORM_ROOM = 1;
        private static final int FORM_PAGES = 2;
        private static final int FORM_CELLS = 3;
        private static final int FORM_FIFTY = 4;
        private static final int FORM_UNIT = 5;
        private static final int FORM_TANK = 6;
        private static final int FORM_RECORDER = 7;
        private static final int FORM_TARGET = 8;
        private static final int FORM_AXIS = 9;
        private static final int FORM_RATE = 10;
        private static final int FORM_POWER = 11;
        private static final int FORM_FACE = 12;
        private static final int FORM_FLOW = 13;

        private final int[] layers = new int[MOST_UNITS];
        private final long[] titles = new long[MOST_UNITS];
        private final int[] numbers = new int[3 * MOST_UNITS];
        private int count;

        int size() {
            return count;
        }

        int layerOf(int i) {
            return i >= 0 && i < layers.length ? layers[i] : NONE;
        }

        long titleOf(int i) {
            return i >= 0 && i < titles.length ? titles[i] : 0;
        }

        int numberOf(int i, int k) {
            int spot = 3 * i + k;
            return spot >= 0 && spot < numbers.length ? numbers[spot] : 0;
        }

        boolean readFrom(Text text) {
            count = 0;
            // One round more than there may be units: it meets the end, or refuses the kind that is too many.
            for (int i = 0; i <= MOST_UNITS; i++) {
                text.next();
                if (text.isEnd()) {
                    return true;
                }
                if (!readUnit(text)) {
                    return false;
                }
            }
            return false;
        }

        private boolean readUnit(Text text) {
            Kind kind = Kind.readIn(text);
            if (kind == null) {
                return text.refuse(BAD_TOKEN);
            }
            if (count < 0 || count >= MOST_UNITS) {
                return text.refuse(TOO_MANY);
            }
            if (!text.takeWord()) {
                return false;
            }
            if (isTaken(text.wordRead())) {
                return text.refuse(BAD_NAME);
            }
            layers[count] = kind.layer;
            titles[count] = text.wordRead();
            if (!readNumbers(text, kind) || !text.takeSign(';')) {
                return false;
            }
            count++;
            return true;
        }

        private boolean readNumbers(Text text, Kind kind) {
            for (int k = 0; k < 3; k++) {
                int form = kind.formOf(k);
                int spot = 3 * count + k;
                if (form == FORM_NONE || spot < 0 || spot >= numbers.length) {
                    return true;
                }
                if (!text.takeNumber()) {
                    return false;
                }
                if (!fits(form, text.number())) {
                    return text.refuse(BAD_NUMBER);
                }
                numbers[spot] = text.number();
            }
            return true;
        }

        private boolean isTaken(long title) {
            for (int i = 0; i < count && i < titles.length; i++) {
                if (titles[i] == title) {
                    return true;
                }
            }
            return false;
        }

        private boolean fits(int form, int x) {
            switch (form) {
                case FORM_ROOM:
                    return within(x, 1, LARGEST_ROOM);
                case FORM_PAGES:
                    return within(x, 20, LARGEST_ROOM);
                case FORM_CELLS:
                    return within(x, 1, 8);
                case FORM_FIFTY:
                    return within(x, 1, 50);
                case FORM_UNIT:
                    return within(x, 0, count - 1);
                case FORM_TANK:
                    return within(x, 0, count - 1) && layerOf(x) == TANK;
                case FORM_RECORDER:
                    return within(x, 0, count - 1) && layerOf(x) == RECORDER;
                case FORM_TARGET:
                    return within(x, -300, 900);
                case FORM_AXIS:
                    return within(x, 0, AXIS_COUNT - 1);
                case FORM_RATE:
                    return within(x, 1, 40);
                case FORM_POWER:
                    return within(x, 1, 200);
                case FORM_FACE:
                    return within(x, 0, 3);
                case FORM_FLOW:
                    return within(x, 1, 9);
                default:
                    return false;
            }
        }
    }

    /** A place for a unit: what stands in it is made anew at every load and restart, its rows are used again. */
    private static final class Unit {
        private final int[] parts = new int[PART_COUNT];
        private final int[] layers = new int[MOST_LAYERS];
        private final int[] given = new int[3];
        private final int[] row = new int[LARGEST_ROOM];
        private long title;
        private int depth;
        private int layerBits;
        private int head;

        void describe(Book book, int i) {
            title = book.titleOf(i);
            for (int k = 0; k < given.length; k++) {
                given[k] = book.numberOf(i, k);
            }
            stackLayers(book.layerOf(i));
        }

        private void stackLayers(int uppermost) {
            depth = 0;
            layerBits = 0;
            int layer = uppermost;
            for (int i = 0; i < layers.length && layer >= 0 && layer < LAYER_BELOW.length; i++) {
                layers[i] = layer;
                layerBits |= 1 << layer;
                depth = i + 1;
                layer = LAYER_BELOW[layer];
            }
        }

        /** All parts 0 but the constants, which have their numbers ahead of their layers. */
        void clear(int number) {
            for (int k = 0; k < parts.length; k++) {
                parts[k] = 0;
            }
            head = 0;
            parts[NAMED] = layers[0];
            parts[NUMBER] = number;
            parts[GRADE] = 3;
            parts[POLE] = 7;
            parts[STEP] = 5;
            parts[HEAT] = 200;
        }

        long title() {
            return title;
        }

        int height() {
            return depth;
        }

        /** The layer at a height, the lowest one at 0. */
        int layerAt(int height) {
            int i = depth - 1 - height;
            return i >= 0 && i < layers.length ? layers[i] : UNIT;
        }

        boolean is(int layer) {
            return layer >= 0 && layer < LAYER_BELOW.length && (layerBits >>> layer & 1) == 1;
        }

        int get(int what) {
            return what >= 0 && what < parts.length ? parts[what] : 0;
        }

        void set(int what, int x) {
            if (what >= 0 && what < parts.length) {
                parts[what] = x;
            }
        }

        void grow(int what, int x) {
            set(what, get(what) + x);
        }

        /** A number of the unit in the book: A1, A2 or A3. */
        int a(int k) {
            return k >= 1 && k <= given.length ? given[k - 1] : 0;
        }

        boolean isOn(int layer) {
            return is(layer) && get(ON) == 1;
        }

        boolean isWhole(int layer) {
            return is(layer) && get(BROKEN) == 0;
        }

        boolean owns(int what) {
            switch (what) {
                case OF:
                    return is(THERMO) || is(PROBE) || is(CAMERA) || is(JET) || is(GENERATOR);
                case EVERY:
                    return is(SENSOR) || is(BEACON);
                case AXIS:
                    return is(GYRO) || is(ACTUATOR);
                case SHOTS:
                    return is(CAMERA) || is(JET);
                case MOST:
                    return is(WHEEL) || is(SOURCE);
                case FLOW:
                    return is(PIPE) || is(HOSE);
                default:
                    return what >= 0 && what < PART_LAYER.length && is(PART_LAYER[what]);
            }
        }

        boolean tells(int question) {
            if (question == ASK_CHANNELS) {
                return is(SENSOR);
            }
            return question == ASK_PUSH ? is(ACTUATOR) : within(question, ASK_MASS, ASK_TEST);
        }

        /**
         * The answer of the uppermost layer that tells one. It is found from the lowest layer upwards: each that
         * tells one makes its answer of the one below, each other hands that on.
         */
        int answer(int question) {
            int below = 0;
            for (int height = 0; height < depth; height++) {
                below = answerOf(question, layerAt(height), below);
            }
            return below;
        }

        private int answerOf(int question, int layer, int below) {
            switch (question) {
                case ASK_MASS:
                    return massOf(layer, below);
                case ASK_SPAN:
                    return spanOf(layer, below);
                case ASK_NEED:
                    return needOf(layer, below);
                case ASK_TEST:
                    return testOf(layer, below);
                case ASK_CHANNELS:
                    return channelsOf(layer, below);
                case ASK_PUSH:
                    return pushOf(layer, below);
                default:
                    return below;
            }
        }

        private int massOf(int layer, int below) {
            switch (layer) {
                case UNIT:
                    return 5;
                case STORE:
                    return 8 + get(ROOM) / 10;
                case LOAD:
                    return below + get(WATTS) / 5;
                case SOURCE:
                    return below + get(MOST) / 20;
                case PIPE:
                    return below + get(FLOW);
                default:
                    return below;
            }
        }

        private int spanOf(int layer, int below) {
            switch (layer) {
                case UNIT:
                    return 1;
                case STORE:
                    return 1 + get(ROOM) / 50;
                case CELLPACK:
                    return 2 + get(CELLS) + get(GRADE);
                case RECORDER:
                    return below + get(PAGES);
                case SENSOR:
                    return below + get(CHANNELS);
                case CAMERA:
                    return below + get(LENS);
                case PULSER:
                    return 3;
                case RADIO:
                    return 2 + Math.floorMod(get(TONE), 3);
                case PANEL:
                    return 1 + get(FACE);
                case TRACKER:
                    return below + get(STEP);
                case LINK:
                    return 1 + Math.floorMod(get(ONE), 2);
                default:
                    return below;
            }
        }

        private int needOf(int layer, int below) {
            switch (layer) {
                case UNIT:
                    return 0;
                case BATTERY:
                    return 2 + get(WEAR) + get(GRADE);
                case CELLPACK:
                    return get(CELLS) * 2 + get(PAIRS);
                case LOAD:
                    return get(WATTS);
                case HEATER:
                    return below + get(GLOW) / 4;
                case SENSOR:
                    return below + get(CHANNELS);
                case TRACKER:
                    return 3;
                default:
                    return below;
            }
        }

        private int testOf(int layer, int below) {
            switch (layer) {
                case UNIT:
                    return get(SERIAL) + get(MASS);
                case STORE:
                    return below + get(SEAL) - get(ROOM);
                case BATTERY:
                    return below + get(WEAR) * get(GRADE);
                case TANK:
                    return below * 2 - get(VALVE);
                case THERMO:
                    return below + get(BAND) - get(TARGET);
                case FINEGYRO:
                    return below * 3 + get(FINE);
                case ACTUATOR:
                    return below + get(PUSH);
                case BEACON:
                    return below - get(EVERY);
                case GENERATOR:
                    return below + get(ROD);
                case HOSE:
                    return below - get(FLOW);
                default:
                    return below;
            }
        }

        private int channelsOf(int layer, int below) {
            switch (layer) {
                case SENSOR:
                    return 1;
                case GYRO:
                    return get(AXES);
                case FINEGYRO:
                    return below + get(FINE);
                case SUNEYE:
                    return 2;
                case PROBE:
                    return below + get(SHIFT);
                case CAMERA:
                    return 3 + get(LENS);
                default:
                    return below;
            }
        }

        private int pushOf(int layer, int below) {
            switch (layer) {
                case ACTUATOR:
                    return 4 + get(AXIS);
                case WHEEL:
                    return 2 + get(MOST) / 100;
                case COIL:
                    return get(POLE) + get(TURNS) - below;
                case JET:
                    return below * (1 + get(GAS));
                case PULSER:
                    return below / 2 + get(BEAT);
                default:
                    return below;
            }
        }

        boolean hasRoomFor(int more) {
            return get(ROOM) - get(LEVEL) >= more;
        }

        void keepByte(int b) {
            row[Math.floorMod(head + get(LEVEL), LARGEST_ROOM)] = b;
            grow(LEVEL, 1);
        }

        int keptByte(int i) {
            return i >= 0 && i < get(LEVEL) ? row[Math.floorMod(head + i, LARGEST_ROOM)] : NONE;
        }

        void dropFirst() {
            head = Math.floorMod(head + 1, LARGEST_ROOM);
            grow(LEVEL, -1);
        }
    }

    /** Where the units are made: they, and what the craft counts while they are made. */
    private static final class Yard {
        private static final int KEPT_NOTES = 100;
        private static final int MOST_RESTARTS = 30;

        private final Unit[] units = new Unit[MOST_UNITS];
        private final Unit nobody = new Unit();
        private final int[] notes = new int[3 * KEPT_NOTES];
        private int count;
        private int draws;
        private int address;
        private int reserve;
        private int noteCount;
        private int restarts;

        Yard() {
            for (int i = 0; i < units.length; i++) {
                units[i] = new Unit();
            }
        }

        int size() {
            return count;
        }

        boolean has(int i) {
            return i >= 0 && i < count;
        }

        /** The unit with a number; one without layers, if there is none such. */
        Unit unitAt(int i) {
            return has(i) && i < units.length ? units[i] : nobody;
        }

        int unitTitled(long title) {
            for (int i = 0; i < count; i++) {
                if (unitAt(i).title() == title) {
                    return i;
                }
            }
            return NONE;
        }

        int unitWithAddress(int where) {
            int found = NONE;
            for (int i = 0; i < count; i++) {
                int base = unitAt(i).get(BASE);
                boolean holds = where >= base && where - base < unitAt(i).get(WIDTH);
                if (holds && (found == NONE || base > unitAt(found).get(BASE))) {
                    found = i;
                }
            }
            return found;
        }

        int drawsTaken() {
            return draws;
        }

        int addressNow() {
            return address;
        }

        int reserveNow() {
            return reserve;
        }

        int notesTaken() {
            return noteCount;
        }

        int restartsDone() {
            return restarts;
        }

        boolean hasNote(int i) {
            return i >= 0 && i < noteCount && i < KEPT_NOTES;
        }

        int noteValue(int i, int what) {
            int spot = 3 * i + what;
            return spot >= 0 && spot < notes.length ? notes[spot] : NONE;
        }

        void build(Book book) {
            count = book.size();
            draws = 0;
            address = 0;
            reserve = 0;
            noteCount = 0;
            restarts = 0;
            for (int i = 0; i < count; i++) {
                unitAt(i).describe(book, i);
                make(unitAt(i), i);
            }
            for (int i = 0; i < count; i++) {
                judge(unitAt(i));
            }
        }

        boolean restart(int i) {
            if (restarts >= MOST_RESTARTS) {
                return false;
            }
            restarts++;
            make(unitAt(i), i);
            judge(unitAt(i));
            return true;
        }

        private void judge(Unit u) {
            boolean odd = Math.floorMod(u.answer(ASK_TEST) - u.get(COLD), 2) == 1;
            u.set(STUBBORN, odd ? 1 : 0);
        }

        private int draw() {
            draws++;
            return draws;
        }

        private void jot(Unit u, int layer, int x) {
            int spot = 3 * noteCount;
            if (spot >= 0 && spot + 2 < notes.length) {
                notes[spot] = u.get(NUMBER);
                notes[spot + 1] = layer;
                notes[spot + 2] = x;
            }
            noteCount++;
        }

        private void make(Unit u, int number) {
            u.clear(number);
            for (int height = 0; height < u.height(); height++) {
                makeLayer(u, u.layerAt(height));
            }
        }

        private void makeLayer(Unit u, int layer) {
            switch (layer) {
                case UNIT: makeUnit(u); break;
                case STORE: makeStore(u); break;
                case BATTERY: makeBattery(u); break;
                case CELLPACK: makeCellpack(u); break;
                case TANK: makeTank(u); break;
                case RECORDER: makeRecorder(u); break;
                case LOAD: makeLoad(u); break;
                case HEATER: makeHeater(u); break;
                case THERMO: makeThermo(u); break;
                case SENSOR: makeSensor(u); break;
                case GYRO: makeGyro(u); break;
                case FINEGYRO: makeFinegyro(u); break;
                case SUNEYE: makeSuneye(u); break;
                case PROBE: makeProbe(u); break;
                case CAMERA: makeCamera(u); break;
                case ACTUATOR: makeActuator(u); break;
                case WHEEL: makeWheel(u); break;
                case COIL: makeCoil(u); break;
                case JET: makeJet(u); break;
                case PULSER: makePulser(u); break;
                case RADIO: makeRadio(u); break;
                case BEACON: makeBeacon(u); break;
                case SOURCE: makeSource(u); break;
                case PANEL: makePanel(u); break;
                case TRACKER: makeTracker(u); break;
                case GENERATOR: makeGenerator(u); break;
                case LINK: makeLink(u); break;
                case PIPE: makePipe(u); break;
                case HOSE: makeHose(u); break;
                default: break;
            }
        }

        private void makeUnit(Unit u) {
            u.set(SERIAL, draw());
            u.set(MASS, u.answer(ASK_MASS));
            u.set(BASE, address);
            u.set(WIDTH, Math.max(1, u.answer(ASK_SPAN)));
            address += u.get(WIDTH);
            u.set(COLD, u.answer(ASK_TEST));
            jot(u, UNIT, u.get(COLD));
        }

        private void makeStore(Unit u) {
            u.set(SEAL, draw() + u.get(MASS));
            u.set(SPARE, u.answer(ASK_SPAN));
            u.set(ROOM, u.a(1));
            u.set(LEVEL, u.get(ROOM) / 2);
            jot(u, STORE, u.get(SPARE));
        }

        private void makeBattery(Unit u) {
            u.set(WEAR, Math.floorMod(draw(), 5));
            u.set(LEVEL, u.get(ROOM) * 3 / 4);
            u.set(TOP, u.answer(ASK_NEED));
            jot(u, BATTERY, u.get(TOP));
        }

        private void makeCellpack(Unit u) {
            u.set(PAIRS, 2);
            u.set(CAP, u.get(TOP) * 2 + u.get(WEAR));
            u.set(CELLS, u.a(2));
            u.set(LEVEL, u.get(LEVEL) * u.get(CELLS) / 8);
            u.set(TOP, u.answer(ASK_NEED));
            jot(u, CELLPACK, u.get(LEVEL) + u.get(CAP));
        }

        private void makeTank(Unit u) {
            u.set(VALVE, Math.floorMod(u.get(BASE), 4));
            u.set(LEVEL, u.get(ROOM));
            jot(u, TANK, u.get(VALVE));
        }

        private void makeRecorder(Unit u) {
            u.set(PAGES, u.get(ROOM) / 10);
            u.set(FIRST, u.get(LEVEL));
            u.set(LEVEL, 0);
            u.set(KEEP, u.answer(ASK_SPAN));
            jot(u, RECORDER, u.get(KEEP) + u.get(FIRST));
        }

        private void makeLoad(Unit u) {
            u.set(LINE, Math.floorMod(u.get(SERIAL) + draw(), 3));
            u.set(ON, 0);
            u.set(WATTS, u.a(1));
            u.set(SHARE, u.answer(ASK_NEED));
            reserve += u.get(SHARE);
            jot(u, LOAD, u.get(SHARE));
        }

        private void makeHeater(Unit u) {
            u.set(GLOW, u.answer(ASK_NEED) + 1);
            jot(u, HEATER, u.get(GLOW));
        }

        private void makeThermo(Unit u) {
            u.set(BAND, 5 + u.get(LINE) * 5 + u.get(GLOW) / 8);
            u.set(OF, u.a(2));
            u.set(TARGET, u.a(3));
            jot(u, THERMO, u.answer(ASK_TEST));
        }

        private void makeSensor(Unit u) {
            u.set(NOISE, Math.floorMod(draw(), 7));
            u.set(CHANNELS, u.answer(ASK_CHANNELS));
            u.set(EVERY, u.a(2));
            u.set(READING, 0);
            jot(u, SENSOR, u.get(CHANNELS));
        }

        private void makeGyro(Unit u) {
            u.set(DRIFT, u.get(NOISE) - 3);
            u.set(AXES, 1);
            u.set(AXIS, u.a(3));
            u.set(CHANNELS, u.answer(ASK_CHANNELS));
            jot(u, GYRO, u.get(DRIFT));
        }

        private void makeFinegyro(Unit u) {
            u.set(DRIFT, u.get(DRIFT) / 2);
            u.set(FINE, Math.floorMod(draw(), 4) + 1);
            u.set(AXES, 3);
            u.set(CHANNELS, u.answer(ASK_CHANNELS));
            jot(u, FINEGYRO, u.get(CHANNELS));
        }

        private void makeSuneye(Unit u) {
            u.set(WIDE, 600 + u.get(NOISE) * 40);
            jot(u, SUNEYE, u.get(WIDE));
        }

        private void makeProbe(Unit u) {
            u.set(SHIFT, u.get(NOISE) - 2);
            u.set(OF, u.a(3));
            jot(u, PROBE, u.get(SHIFT));
        }

        private void makeCamera(Unit u) {
            u.set(LENS, u.get(CHANNELS) + Math.floorMod(draw(), 3));
            u.set(OF, u.a(3));
            u.set(SHOTS, 0);
            jot(u, CAMERA, u.get(LENS));
        }

        private void makeActuator(Unit u) {
            u.set(KICK, u.answer(ASK_PUSH));
            u.set(AXIS, u.a(2));
            u.set(PUSH, u.answer(ASK_PUSH));
            jot(u, ACTUATOR, u.get(PUSH) - u.get(KICK));
        }

        private void makeWheel(Unit u) {
            u.set(MOST, 200 + u.get(SERIAL));
            u.set(SPEED, 0);
            jot(u, WHEEL, u.get(MOST) - u.get(PUSH));
        }

        private void makeCoil(Unit u) {
            u.set(TURNS, u.get(KICK) * 2);
            u.set(PUSH, u.answer(ASK_PUSH));
            jot(u, COIL, u.get(PUSH));
        }

        private void makeJet(Unit u) {
            u.set(GAS, Math.floorMod(draw(), 3) + 1);
            u.set(OF, u.a(3));
            u.set(SHOTS, 0);
            jot(u, JET, u.answer(ASK_PUSH));
        }

        private void makePulser(Unit u) {
            u.set(BEAT, u.get(GAS) + 1);
            u.set(PUSH, u.answer(ASK_PUSH));
            jot(u, PULSER, u.get(PUSH));
        }

        private void makeRadio(Unit u) {
            u.set(TONE, u.get(BASE) * 2 + 1);
            u.set(RATE, u.a(2));
            u.set(SENT, 0);
            jot(u, RADIO, u.get(TONE));
        }

        private void makeBeacon(Unit u) {
            u.set(EVERY, 10 + Math.floorMod(u.get(TONE), 7));
            u.set(RATE, u.get(RATE) / 2 + 1);
            jot(u, BEACON, u.get(RATE));
        }

        private void makeSource(Unit u) {
            u.set(WIRE, Math.floorMod(draw(), 3));
            u.set(MOST, u.a(1));
            jot(u, SOURCE, u.answer(ASK_MASS));
        }

        private void makePanel(Unit u) {
            u.set(TURN, u.get(WIRE) * 10);
            u.set(FACE, u.a(2));
            jot(u, PANEL, u.get(TURN) + u.get(FACE));
        }

        private void makeTracker(Unit u) {
            u.set(AT, Math.floorMod(u.get(FACE) * 900 + u.get(TURN), CIRCLE));
            jot(u, TRACKER, u.get(AT));
        }

        private void makeGenerator(Unit u) {
            u.set(ROD, u.get(MASS) * 2 + u.get(WIRE));
            u.set(OF, u.a(2));
            jot(u, GENERATOR, u.get(ROD));
        }

        private void makeLink(Unit u) {
            u.set(TWIST, u.answer(ASK_SPAN) + Math.floorMod(draw(), 2));
            u.set(ONE, u.a(1));
            u.set(OTHER, u.a(2));
            jot(u, LINK, u.get(TWIST));
        }

        private void makePipe(Unit u) {
            u.set(FLOW, u.get(TWIST) + 2);
            jot(u, PIPE, u.get(FLOW));
        }

        private void makeHose(Unit u) {
            u.set(FLOW, u.get(TWIST));
            u.grow(FLOW, u.a(3));
            jot(u, HOSE, u.get(FLOW) + u.get(ONE));
        }
    }

    /** A line of the plan: when it is due, what is done then, and how that went. */
    private static final class Item {
        private static final int WHEN_AT = 0;
        private static final int WHEN_EACH = 1;
        private static final int WHEN_BELOW = 2;
        private static final int WHEN_ABOVE = 3;

        private static final int TERM_LEVEL = 0;
        private static final int TERM_HEAT = 1;
        private static final int TERM_SPEED = 2;
        private static final int TERM_READING = 3;
        private static final int TERM_LIGHT = 4;
        private static final int TERM_ANGLE = 5;
        private static final int TERM_RATE = 6;

        private int when;
        private int bound;
        private int term;
        private int subject;
        private int act;
        private int a;
        private int b;
        private int dueCount;
        private int refusedCount;
        private boolean stopped;
        private boolean wasSo;

        void clear() {
            when = WHEN_AT;
            bound = 0;
            term = TERM_LIGHT;
            subject = 0;
            act = ACT_ON;
            a = 0;
            b = 0;
            dueCount = 0;
            refusedCount = 0;
            stopped = false;
            wasSo = false;
        }

        boolean isWatch() {
            return when == WHEN_BELOW || when == WHEN_ABOVE;
        }

        boolean isDueAt(int t) {
            return when == WHEN_AT ? t == bound : t > 0 && isMultiple(t, bound);
        }

        /** Looks at a term's value: whether it has come below (above) the bound since the last look. */
        boolean hasCome(int value) {
            boolean isSo = when == WHEN_BELOW ? value < bound : value > bound;
            boolean came = isSo && !wasSo;
            wasSo = isSo;
            return came;
        }
    }

    /** The items of a plan in their order, and how they are read. */
    private static final class Plan {
        private final Item[] items = new Item[MOST_ITEMS];
        private final Item nothing = new Item();
        private int count;

        Plan() {
            for (int i = 0; i < items.length; i++) {
                items[i] = new Item();
            }
        }

        int size() {
            return count;
        }

        void clear() {
            count = 0;
        }

        Item itemAt(int i) {
            return i >= 0 && i < count && i < items.length ? items[i] : nothing;
        }

        void stop(int i) {
            if (i >= 0 && i < count) {
                itemAt(i).stopped = true;
            }
        }

        boolean readFrom(Text text, Yard yard) {
            count = 0;
            // One round more than there may be items: it meets the end, or refuses the item that is too many.
            for (int i = 0; i <= MOST_ITEMS; i++) {
                text.next();
                if (text.isEnd()) {
                    return true;
                }
                if (!readItem(text, yard)) {
                    return false;
                }
            }
            return false;
        }

        private boolean readItem(Text text, Yard yard) {
            boolean isAt = text.isWord("at");
            boolean isEach = text.isWord("each");
            if (!isAt && !isEach && !text.isWord("when")) {
                return text.refuse(BAD_TOKEN);
            }
            if (count < 0 || count >= items.length) {
                return text.refuse(TOO_MANY);
            }
            Item item = items[count];
            item.clear();
            boolean good;
            if (isAt) {
                good = readTime(text, item, Item.WHEN_AT, 0);
            } else if (isEach) {
                good = readTime(text, item, Item.WHEN_EACH, 1);
            } else {
                good = readTerm(text, yard, item) && readBound(text, item);
            }
            if (!good || !readAct(text, yard, item) || !text.takeSign(';')) {
                return false;
            }
            count++;
            return true;
        }

        private boolean readTime(Text text, Item item, int when, int least) {
            if (!text.takeNumber(least, 9999)) {
                return false;
            }
            item.when = when;
            item.bound = text.number();
            return true;
        }

        private boolean readBound(Text text, Item item) {
            text.next();
            if (!text.isSign('<') && !text.isSign('>')) {
                return text.refuse(BAD_TOKEN);
            }
            item.when = text.isSign('<') ? Item.WHEN_BELOW : Item.WHEN_ABOVE;
            if (!text.takeNumber()) {
                return false;
            }
            item.bound = text.number();
            return true;
        }

        private boolean readTerm(Text text, Yard yard, Item item) {
            text.next();
            if (text.isWord("level")) {
                return readUnitTerm(text, yard, item, Item.TERM_LEVEL, STORE);
            }
            if (text.isWord("heat")) {
                return readUnitTerm(text, yard, item, Item.TERM_HEAT, UNIT);
            }
            if (text.isWord("speed")) {
                return readUnitTerm(text, yard, item, Item.TERM_SPEED, WHEEL);
            }
            if (text.isWord("reading")) {
                return readUnitTerm(text, yard, item, Item.TERM_READING, SENSOR);
            }
            if (text.isWord("light")) {
                item.term = Item.TERM_LIGHT;
                return true;
            }
            if (text.isWord("angle")) {
                return readAxisTerm(text, item, Item.TERM_ANGLE);
            }
            if (text.isWord("rate")) {
                return readAxisTerm(text, item, Item.TERM_RATE);
            }
            return text.refuse(BAD_TOKEN);
        }

        private boolean readUnitTerm(Text text, Yard yard, Item item, int term, int layer) {
            item.term = term;
            item.subject = readName(text, yard, layer);
            return item.subject != NONE;
        }

        private boolean readAxisTerm(Text text, Item item, int term) {
            item.term = term;
            if (!text.takeNumber(0, AXIS_COUNT - 1)) {
                return false;
            }
            item.subject = text.number();
            return true;
        }

        /** The number of the unit that is named next; NONE, and a fault, if there is none of that layer. */
        private int readName(Text text, Yard yard, int layer) {
            if (!text.takeWord()) {
                return NONE;
            }
            int found = yard.unitTitled(text.wordRead());
            if (found == NONE || !yard.unitAt(found).is(layer)) {
                text.refuse(BAD_NAME);
                return NONE;
            }
            return found;
        }

        private boolean readAct(Text text, Yard yard, Item item) {
            text.next();
            if (text.isWord("on")) {
                return readUnitAct(text, yard, item, ACT_ON, UNIT);
            }
            if (text.isWord("off")) {
                return readUnitAct(text, yard, item, ACT_OFF, UNIT);
            }
            if (text.isWord("mode")) {
                return readNumberAct(text, item, ACT_MODE, 3);
            }
            if (text.isWord("aim")) {
                return readNumberAct(text, item, ACT_AIM, AXIS_COUNT - 1) && readAngle(text, item);
            }
            if (text.isWord("restart")) {
                return readUnitAct(text, yard, item, ACT_RESTART, UNIT);
            }
            if (text.isWord("wipe")) {
                return readUnitAct(text, yard, item, ACT_WIPE, RECORDER);
            }
            if (text.isWord("stop")) {
                return readNumberAct(text, item, ACT_STOP, MOST_ITEMS - 1);
            }
            return text.refuse(BAD_TOKEN);
        }

        private boolean readUnitAct(Text text, Yard yard, Item item, int act, int layer) {
            item.act = act;
            item.a = readName(text, yard, layer);
            return item.a != NONE;
        }

        private boolean readNumberAct(Text text, Item item, int act, int greatest) {
            item.act = act;
            if (!text.takeNumber(0, greatest)) {
                return false;
            }
            item.a = text.number();
            return true;
        }

        private boolean readAngle(Text text, Item item) {
            if (!text.takeNumber(0, CIRCLE - 1)) {
                return false;
            }
            item.b = text.number();
            return true;
        }
    }

    /** How the craft lies and turns: steps 4 (modes 1 and 2) and 5 of a tick. */
    private static final class Steering {
        private final Yard yard;
        private final int[] angles = new int[AXIS_COUNT];
        private final int[] rates = new int[AXIS_COUNT];
        private final int[] aims = new int[AXIS_COUNT];

        Steering(Yard yard) {
            this.yard = yard;
        }

        void begin() {
            for (int x = 0; x < AXIS_COUNT; x++) {
                angles[x] = 0;
                rates[x] = 0;
                aims[x] = 0;
            }
        }

        int angle(int x) {
            return x >= 0 && x < angles.length ? angles[x] : 0;
        }

        int rate(int x) {
            return x >= 0 && x < rates.length ? rates[x] : 0;
        }

        int aim(int x) {
            return x >= 0 && x < aims.length ? aims[x] : 0;
        }

        /** Angles, rates and aims in one row, as craft() has them. */
        int value(int k) {
            if (k < AXIS_COUNT) {
                return angle(k);
            }
            return k < 2 * AXIS_COUNT ? rate(k - AXIS_COUNT) : aim(k - 2 * AXIS_COUNT);
        }

        void setAim(int x, int angle) {
            if (x >= 0 && x < aims.length) {
                aims[x] = angle;
            }
        }

        private void speedUp(int x, int c) {
            if (x >= 0 && x < rates.length) {
                rates[x] += c;
            }
        }

        void steer(int t, int mode) {
            for (int x = 0; x < AXIS_COUNT; x++) {
                int wish = limit(error(x, mode) / 16 - 2 * measuredRate(x), -30, 30);
                wish -= spinWheels(x, wish);
                if (isMultiple(t, 8)) {
                    driveCoils(x, wish);
                }
                unloadWheels(x, t);
            }
        }

        private int error(int x, int mode) {
            if (mode == 1) {
                return off(angle(x), aim(x));
            }
            return x == 0 ? sunError() : off(angle(x), 0);
        }

        private int sunError() {
            for (int i = 0; i < yard.size(); i++) {
                Unit u = yard.unitAt(i);
                if (u.isOn(SUNEYE)) {
                    return u.get(READING) == BLIND ? 200 : u.get(READING);
                }
            }
            return 200;
        }

        private int measuredRate(int x) {
            for (int i = 0; i < yard.size(); i++) {
                Unit u = yard.unitAt(i);
                if (u.isOn(GYRO) && u.get(AXIS) == x) {
                    return u.get(READING);
                }
            }
            return 0;
        }

        /** How much of the wish the wheels have taken. */
        private int spinWheels(int x, int wish) {
            int left = wish;
            for (int i = 0; i < yard.size(); i++) {
                Unit u = yard.unitAt(i);
                if (u.isOn(WHEEL) && u.get(AXIS) == x) {
                    int speed = u.get(SPEED);
                    int most = u.get(MOST);
                    int push = u.get(PUSH);
                    int c = limit(speed + limit(left, 0 - push, push), 0 - most, most) - speed;
                    u.grow(SPEED, c);
                    speedUp(x, c);
                    left -= c;
                }
            }
            return wish - left;
        }

        private void driveCoils(int x, int wish) {
            int left = wish;
            for (int i = 0; i < yard.size(); i++) {
                Unit u = yard.unitAt(i);
                if (u.isOn(COIL) && u.get(AXIS) == x && u.get(PUSH) > 0) {
                    int c = limit(left, -1, 1);
                    speedUp(x, c);
                    left -= c;
                }
            }
        }

        private void unloadWheels(int x, int t) {
            for (int i = 0; i < yard.size(); i++) {
                Unit wheel = yard.unitAt(i);
                boolean turns = wheel.isOn(WHEEL) && wheel.get(AXIS) == x;
                if (turns && 4 * Math.abs(wheel.get(SPEED)) > wheel.get(MOST)) {
                    int jet = readyJet(x, t);
                    if (jet != NONE) {
                        unload(wheel, yard.unitAt(jet));
                    }
                }
            }
        }

        private int readyJet(int x, int t) {
            for (int i = 0; i < yard.size(); i++) {
                Unit u = yard.unitAt(i);
                if (u.isOn(JET) && u.get(AXIS) == x && hasGas(u) && (!u.is(PULSER) || isMultiple(t, u.get(BEAT)))) {
                    return i;
                }
            }
            return NONE;
        }

        private boolean hasGas(Unit jet) {
            Unit tank = yard.unitAt(jet.get(OF));
            return tank.isWhole(TANK) && tank.get(LEVEL) >= jet.get(GAS);
        }

        private void unload(Unit wheel, Unit jet) {
            int speed = wheel.get(SPEED);
            int less = limit(jet.get(PUSH), 0, Math.abs(speed));
            wheel.set(SPEED, speed > 0 ? speed - less : speed + less);
            yard.unitAt(jet.get(OF)).grow(LEVEL, 0 - jet.get(GAS));
            jet.grow(SHOTS, 1);
        }

        void turn(int t) {
            if (isMultiple(t, 50)) {
                speedUp(0, 1);
            }
            for (int x = 0; x < AXIS_COUNT; x++) {
                rates[x] = limit(rates[x], -400, 400);
                angles[x] = Math.floorMod(angles[x] + rates[x] / 4, CIRCLE);
            }
        }
    }

    /** Power, gas and heat: steps 6 to 8 of a tick. */
    private static final class Plant {
        private static final int[] SHINE = {100, 99, 96, 91, 84, 75, 64, 51, 38, 25, 14, 6, 2, 0, 0, 0};

        private final Yard yard;
        private final int[] heats = new int[MOST_UNITS];
        private int supply;
        private int demand;
        private int brownouts;
        private int failures;

        Plant(Yard yard) {
            this.yard = yard;
        }

        void begin() {
            supply = 0;
            demand = 0;
            brownouts = 0;
            failures = 0;
        }

        int supplyNow() {
            return supply;
        }

        int demandNow() {
            return demand;
        }

        int brownoutCount() {
            return brownouts;
        }

        int failureCount() {
            return failures;
        }

        void power(int t, int light, int angle) {
            supply = 0;
            for (int i = 0; i < yard.size(); i++) {
                Unit u = yard.unitAt(i);
                if (u.isWhole(SOURCE)) {
                    supply += u.is(GENERATOR) ? burn(u, t) : shine(u, light, angle);
                }
            }
            demand = 0;
            for (int i = 0; i < yard.size(); i++) {
                Unit u = yard.unitAt(i);
                if (u.isOn(LOAD) || u.isWhole(SOURCE)) {
                    demand += u.answer(ASK_NEED);
                }
            }
            if (balance(supply - demand) < 0) {
                brownouts++;
                shed();
            }
        }

        private int burn(Unit generator, int t) {
            Unit tank = yard.unitAt(generator.get(OF));
            if (!tank.isWhole(TANK) || tank.get(LEVEL) <= 0) {
                return 0;
            }
            if (isMultiple(t, 8)) {
                tank.grow(LEVEL, -1);
            }
            return generator.get(MOST);
        }

        private int shine(Unit panel, int light, int angle) {
            int slant = off(angle, 900 * panel.get(FACE));
            if (panel.is(TRACKER)) {
                int at = panel.get(AT);
                int step = panel.get(STEP);
                panel.set(AT, Math.floorMod(at + limit(off(at, angle), 0 - step, step), CIRCLE));
                slant = off(angle, panel.get(AT));
            }
            int k = Math.abs(slant) / 120;
            int share = k >= 0 && k < SHINE.length ? SHINE[k] : 0;
            return panel.get(MOST) * light / 100 * share / 100;
        }

        /** Gives what is left over to the batteries, or takes from them what is missing: what remains of it. */
        private int balance(int surplus) {
            int net = surplus;
            for (int i = 0; i < yard.size(); i++) {
                Unit u = yard.unitAt(i);
                if (u.isWhole(BATTERY)) {
                    int space = net > 0 ? u.get(ROOM) - u.get(LEVEL) : u.get(LEVEL);
                    int amount = Math.max(0, Math.min(Math.abs(net), Math.min(u.get(TOP), space)));
                    int change = net > 0 ? amount : 0 - amount;
                    u.grow(LEVEL, change);
                    net -= change;
                }
            }
            return net;
        }

        private void shed() {
            int worst = NONE;
            for (int i = 0; i < yard.size(); i++) {
                Unit u = yard.unitAt(i);
                if (u.isOn(LOAD) && (worst == NONE || u.get(LINE) >= yard.unitAt(worst).get(LINE))) {
                    worst = i;
                }
            }
            if (worst != NONE) {
                yard.unitAt(worst).set(ON, 0);
            }
        }

        void levelTanks() {
            for (int i = 0; i < yard.size(); i++) {
                Unit hose = yard.unitAt(i);
                if (hose.isWhole(HOSE)) {
                    Unit one = yard.unitAt(hose.get(ONE));
                    Unit other = yard.unitAt(hose.get(OTHER));
                    if (one.isWhole(TANK) && other.isWhole(TANK)) {
                        boolean forth = one.get(LEVEL) >= other.get(LEVEL);
                        pour(hose.get(FLOW), forth ? one : other, forth ? other : one);
                    }
                }
            }
        }

        private void pour(int flow, Unit higher, Unit lower) {
            int half = (higher.get(LEVEL) - lower.get(LEVEL)) / 2;
            int space = lower.get(ROOM) - lower.get(LEVEL);
            int amount = Math.min(Math.min(flow, higher.get(LEVEL)), Math.min(space, half));
            higher.grow(LEVEL, 0 - amount);
            lower.grow(LEVEL, amount);
        }

        void warm(int light) {
            for (int i = 0; i < yard.size() && i < heats.length; i++) {
                heats[i] = heatAlone(yard.unitAt(i), light) + fromNeighbour(i, i - 1) + fromNeighbour(i, i + 1);
            }
            for (int i = 0; i < yard.size(); i++) {
                if (yard.unitAt(i).isWhole(PIPE)) {
                    leadHeat(yard.unitAt(i));
                }
            }
            for (int i = 0; i < yard.size() && i < heats.length; i++) {
                yard.unitAt(i).set(HEAT, limit(heats[i], -500, 1500));
            }
            breakUnits();
            switchThermos();
        }

        private int heatAlone(Unit u, int light) {
            int heat = u.get(HEAT);
            int mass = u.answer(ASK_MASS);
            int work = u.isOn(LOAD) ? u.answer(ASK_NEED) : 0;
            if (u.is(HEATER)) {
                work = 4 * work;
            }
            int gain = mass > 0 ? work * 10 / mass : 0;
            int outside = 4 * light - 250;
            int loss = 24 + mass > 0 ? (heat - outside) / (24 + mass) : 0;
            return heat + gain - loss;
        }

        private int fromNeighbour(int i, int neighbour) {
            if (!yard.has(neighbour)) {
                return 0;
            }
            return (yard.unitAt(neighbour).get(HEAT) - yard.unitAt(i).get(HEAT)) / 16;
        }

        private void leadHeat(Unit pipe) {
            int one = pipe.get(ONE);
            int other = pipe.get(OTHER);
            if (one != other) {
                int difference = yard.unitAt(other).get(HEAT) - yard.unitAt(one).get(HEAT);
                addHeat(one, difference * pipe.get(FLOW) / 64);
                addHeat(other, (0 - difference) * pipe.get(FLOW) / 64);
            }
        }

        private void addHeat(int i, int x) {
            if (i >= 0 && i < heats.length) {
                heats[i] += x;
            }
        }

        private void breakUnits() {
            for (int i = 0; i < yard.size(); i++) {
                Unit u = yard.unitAt(i);
                if (u.get(BROKEN) == 0 && !within(u.get(HEAT), -200, 900)) {
                    u.set(BROKEN, 1);
                    u.set(ON, 0);
                    failures++;
                }
            }
        }

        private void switchThermos() {
            for (int i = 0; i < yard.size(); i++) {
                Unit u = yard.unitAt(i);
                if (u.isWhole(THERMO)) {
                    int heat = yard.unitAt(u.get(OF)).get(HEAT);
                    if (heat < u.get(TARGET) - u.get(BAND)) {
                        u.set(ON, 1);
                    } else if (heat > u.get(TARGET) + u.get(BAND)) {
                        u.set(ON, 0);
                    }
                }
            }
        }
    }

    /** The bytes that went down: the latest of them, and how many there were. */
    private static final class Downlink {
        private static final int KEPT_BYTES = 500;

        private final int[] bytes = new int[KEPT_BYTES];
        private int count;

        void begin() {
            count = 0;
        }

        int byteCount() {
            return count;
        }

        void send(int b) {
            bytes[Math.floorMod(count, KEPT_BYTES)] = b;
            count++;
        }

        int latest(int i) {
            if (i < 0 || i >= count || i >= KEPT_BYTES) {
                return NONE;
            }
            return bytes[Math.floorMod(count - 1 - i, KEPT_BYTES)];
        }
    }

    /** The flight: what a tick does, in its order, and the acts of plan and ground. */
    private static final class Flight {
        private static final int FRAME_BYTES = 12;

        private final Yard yard;
        private final Steering steering;
        private final Plant plant;
        private final Downlink downlink;
        private final int[] frame = new int[FRAME_BYTES];
        private Plan plan;
        private int ticks;
        private int mode;
        private int light;
        private int framesKept;
        private int framesLost;
        private int actsDone;
        private int actsRefused;

        Flight(Yard yard) {
            this.yard = yard;
            steering = new Steering(yard);
            plant = new Plant(yard);
            downlink = new Downlink();
            plan = new Plan();
        }

        void begin() {
            steering.begin();
            plant.begin();
            downlink.begin();
            plan.clear();
            ticks = 0;
            mode = 0;
            light = 0;
            framesKept = 0;
            framesLost = 0;
            actsDone = 0;
            actsRefused = 0;
        }

        Plan exchangePlan(Plan fresh) {
            Plan old = plan;
            plan = fresh;
            return old;
        }

        Plan planned() {
            return plan;
        }

        Downlink downlink() {
            return downlink;
        }

        Steering steering() {
            return steering;
        }

        int ticksSoFar() {
            return ticks;
        }

        /** What craft() tells of the flight itself, by its numbers there. */
        int gauge(int what) {
            switch (what) {
                case 1:
                    return ticks;
                case 2:
                    return mode;
                case 16:
                    return plant.brownoutCount();
                case 17:
                    return plant.failureCount();
                case 18:
                    return framesKept;
                case 19:
                    return framesLost;
                case 21:
                    return actsDone;
                case 22:
                    return actsRefused;
                case 25:
                    return light;
                case 26:
                    return plant.supplyNow();
                case 27:
                    return plant.demandNow();
                default:
                    return 0;
            }
        }

        void tick() {
            int t = ticks;
            int troubles = plant.brownoutCount() + plant.failureCount();
            light = lightAt(Math.floorMod(t, 600));
            doItems(t);
            takeReadings(t);
            if (mode == 3) {
                saveLine();
            } else if (mode != 0 && isMultiple(t, 4)) {
                steering.steer(t, mode);
            }
            steering.turn(t);
            plant.power(t, light, steering.angle(1));
            plant.levelTanks();
            plant.warm(light);
            if (Math.floorMod(t, 25) == 24) {
                keepFrame(t);
            }
            sendAll(t);
            if (mode != 0 && plant.brownoutCount() + plant.failureCount() > troubles) {
                mode = 3;
            }
            ticks++;
        }

        private static int lightAt(int q) {
            if (q <= 339) {
                return 100;
            }
            if (q <= 359) {
                return 100 - 5 * (q - 339);
            }
            return q <= 579 ? 0 : 5 * (q - 579);
        }

        private void doItems(int t) {
            for (int i = 0; i < plan.size(); i++) {
                Item item = plan.itemAt(i);
                if (!item.stopped && isDue(item, t)) {
                    item.dueCount++;
                    if (!perform(item.act, item.a, item.b)) {
                        item.refusedCount++;
                    }
                }
            }
        }

        private boolean isDue(Item item, int t) {
            return item.isWatch() ? item.hasCome(valueOf(item)) : item.isDueAt(t);
        }

        private int valueOf(Item item) {
            switch (item.term) {
                case Item.TERM_LEVEL:
                    return yard.unitAt(item.subject).get(LEVEL);
                case Item.TERM_HEAT:
                    return yard.unitAt(item.subject).get(HEAT);
                case Item.TERM_SPEED:
                    return yard.unitAt(item.subject).get(SPEED);
                case Item.TERM_READING:
                    return yard.unitAt(item.subject).get(READING);
                case Item.TERM_ANGLE:
                    return steering.angle(item.subject);
                case Item.TERM_RATE:
                    return steering.rate(item.subject);
                default:
                    return light;
            }
        }

        /** Does an act, whose numbers were looked at before: whether it is done, not refused. */
        boolean perform(int act, int a, int b) {
            boolean good = carryOut(act, a, b);
            if (good) {
                actsDone++;
            } else {
                actsRefused++;
            }
            return good;
        }

        private boolean carryOut(int act, int a, int b) {
            switch (act) {
                case ACT_ON:
                    return switchOn(yard.unitAt(a));
                case ACT_OFF:
                    return switchOff(yard.unitAt(a));
                case ACT_MODE:
                    mode = a;
                    return true;
                case ACT_AIM:
                    steering.setAim(a, b);
                    return true;
                case ACT_RESTART:
                    return yard.restart(a);
                case ACT_WIPE:
                    yard.unitAt(a).set(LEVEL, 0);
                    return true;
                case ACT_STOP:
                    plan.stop(a);
                    return true;
                default:
                    return false;
            }
        }

        private static boolean switchOn(Unit u) {
            if (!u.isWhole(LOAD)) {
                return false;
            }
            if (u.get(STUBBORN) == 1) {
                u.set(STUBBORN, 0);
                return false;
            }
            u.set(ON, 1);
            return true;
        }

        private static boolean switchOff(Unit u) {
            if (!u.is(LOAD)) {
                return false;
            }
            u.set(ON, 0);
            return true;
        }

        private void takeReadings(int t) {
            for (int i = 0; i < yard.size(); i++) {
                Unit u = yard.unitAt(i);
                if (u.isOn(SENSOR) && isMultiple(t, u.get(EVERY))) {
                    takeReading(u, t);
                }
            }
        }

        private void takeReading(Unit u, int t) {
            if (u.is(GYRO)) {
                u.set(READING, steering.rate(u.get(AXIS)) + u.get(DRIFT));
            } else if (u.is(SUNEYE)) {
                int e = off(steering.angle(0), 0);
                boolean seen = light > 0 && Math.abs(e) < u.get(WIDE);
                u.set(READING, seen ? e + u.get(NOISE) : BLIND);
            } else if (u.is(PROBE)) {
                u.set(READING, yard.unitAt(u.get(OF)).get(HEAT) + u.get(SHIFT));
            } else if (u.is(CAMERA)) {
                u.set(READING, Math.floorMod(t + u.get(LENS) * light, 256));
                keepPicture(u, yard.unitAt(u.get(OF)));
            }
        }

        private static void keepPicture(Unit camera, Unit recorder) {
            int lens = camera.get(LENS);
            if (recorder.isWhole(RECORDER) && recorder.hasRoomFor(lens)) {
                for (int k = 0; k < lens; k++) {
                    recorder.keepByte(Math.floorMod(camera.get(READING) + k, 256));
                }
                camera.grow(SHOTS, 1);
            }
        }

        private void saveLine() {
            for (int i = 0; i < yard.size(); i++) {
                Unit u = yard.unitAt(i);
                if (u.isOn(LOAD) && u.get(LINE) == 2 && !u.is(THERMO)) {
                    u.set(ON, 0);
                }
            }
        }

        private void keepFrame(int t) {
            for (int i = 0; i < yard.size(); i++) {
                Unit u = yard.unitAt(i);
                if (u.isWhole(RECORDER) && u.hasRoomFor(FRAME_BYTES)) {
                    fillFrame(t);
                    for (int k = 0; k < frame.length; k++) {
                        u.keepByte(frame[k]);
                    }
                    framesKept++;
                    return;
                }
            }
            framesLost++;
        }

        private void fillFrame(int t) {
            frame[0] = 165;
            frame[1] = Math.floorMod(t / 256, 256);
            frame[2] = Math.floorMod(t, 256);
            frame[3] = mode;
            frame[4] = charge();
            frame[5] = light;
            frame[6] = steering.angle(0) / 16;
            frame[7] = steering.angle(1) / 16;
            frame[8] = steering.angle(2) / 16;
            frame[9] = countWith(UNIT, BROKEN);
            frame[10] = countWith(LOAD, ON);
            frame[11] = checkOf(FRAME_BYTES - 1);
        }

        private int charge() {
            int levels = 0;
            int rooms = 0;
            for (int i = 0; i < yard.size(); i++) {
                Unit u = yard.unitAt(i);
                if (u.is(BATTERY)) {
                    levels += u.get(LEVEL);
                    rooms += u.get(ROOM);
                }
            }
            return rooms > 0 ? 100 * levels / rooms : 0;
        }

        private int countWith(int layer, int what) {
            int found = 0;
            for (int i = 0; i < yard.size(); i++) {
                if (yard.unitAt(i).is(layer) && yard.unitAt(i).get(what) == 1) {
                    found++;
                }
            }
            return found;
        }

        private int checkOf(int size) {
            int check = 0;
            for (int k = 0; k < size && k < frame.length; k++) {
                check ^= frame[k];
                for (int bit = 0; bit < 8; bit++) {
                    check = check >= 128 ? check * 2 % 256 ^ 7 : check * 2;
                }
            }
            return check;
        }

        private void sendAll(int t) {
            boolean inView = within(Math.floorMod(t, 600), 100, 219);
            for (int i = 0; i < yard.size(); i++) {
                Unit u = yard.unitAt(i);
                if (u.isOn(RADIO)) {
                    if (u.is(BEACON) && isMultiple(t, u.get(EVERY))) {
                        downlink.send(48 + mode);
                        u.grow(SENT, 1);
                    }
                    if (inView) {
                        u.grow(SENT, sendKept(u.get(RATE)));
                    }
                }
            }
        }

        /** Sends down what was kept first, at most so many bytes: how many there were. */
        private int sendKept(int most) {
            int sent = 0;
            for (int i = 0; i < yard.size(); i++) {
                Unit u = yard.unitAt(i);
                if (u.isWhole(RECORDER)) {
                    for (; sent < most && u.get(LEVEL) > 0; sent++) {
                        downlink.send(u.keptByte(0));
                        u.dropFirst();
                    }
                }
            }
            return sent;
        }
    }
}
