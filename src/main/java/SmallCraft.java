import java.util.NoSuchElementException;

/**
 * A small spacecraft: its units are made from a text, layer by layer, and then it is flown tick by tick.
 * The words in the comments are those of the document.
 */
public final class SmallCraft {
    public static final int NONE = -1;

    // The layers by their codes.
    private static final int UNIT = 0;
    private static final int STORE = 1;
    private static final int BATTERY = 2;
    private static final int CELLPACK = 3;
    private static final int TANK = 4;
    private static final int RECORDER = 5;
    private static final int LOAD = 6;
    private static final int HEATER = 7;
    private static final int THERMO = 8;
    private static final int SENSOR = 9;
    private static final int GYRO = 10;
    private static final int FINEGYRO = 11;
    private static final int SUNEYE = 12;
    private static final int PROBE = 13;
    private static final int CAMERA = 14;
    private static final int ACTUATOR = 15;
    private static final int WHEEL = 16;
    private static final int COIL = 17;
    private static final int JET = 18;
    private static final int PULSER = 19;
    private static final int RADIO = 20;
    private static final int BEACON = 21;
    private static final int SOURCE = 22;
    private static final int PANEL = 23;
    private static final int TRACKER = 24;
    private static final int GENERATOR = 25;
    private static final int LINK = 26;
    private static final int PIPE = 27;
    private static final int HOSE = 28;

    // By a layer's code the one that it stands on: always a lesser code, so that a way down ends.
    private static final int[] LAYER_BELOW = {
        -1, 0, 1, 2, 1, 1, 0, 6, 7, 6, 9, 10, 9, 9, 9, 6, 15, 15, 15, 18, 6, 20, 0, 22, 23, 22, 0, 26, 26
    };
    private static final int MOST_LAYERS = 5;

    // The parts of a unit by their numbers in part().
    private static final int NAMED = 0;
    private static final int NUMBER = 1;
    private static final int SERIAL = 2;
    private static final int MASS = 3;
    private static final int BASE = 4;
    private static final int WIDTH = 5;
    private static final int COLD = 6;
    private static final int SEAL = 7;
    private static final int SPARE = 8;
    private static final int ROOM = 9;
    private static final int LEVEL = 10;
    private static final int WEAR = 11;
    private static final int GRADE = 12;
    private static final int TOP = 13;
    private static final int PAIRS = 14;
    private static final int CAP = 15;
    private static final int CELLS = 16;
    private static final int VALVE = 17;
    private static final int PAGES = 18;
    private static final int FIRST = 19;
    private static final int KEEP = 20;
    private static final int LINE = 21;
    private static final int ON = 22;
    private static final int WATTS = 23;
    private static final int SHARE = 24;
    private static final int GLOW = 25;
    private static final int BAND = 26;
    private static final int OF = 27;
    private static final int TARGET = 28;
    private static final int NOISE = 29;
    private static final int CHANNELS = 30;
    private static final int EVERY = 31;
    private static final int READING = 32;
    private static final int DRIFT = 33;
    private static final int AXES = 34;
    private static final int AXIS = 35;
    private static final int FINE = 36;
    private static final int WIDE = 37;
    private static final int SHIFT = 38;
    private static final int LENS = 39;
    private static final int SHOTS = 40;
    private static final int KICK = 41;
    private static final int PUSH = 42;
    private static final int MOST = 43;
    private static final int SPEED = 44;
    private static final int TURNS = 45;
    private static final int POLE = 46;
    private static final int GAS = 47;
    private static final int BEAT = 48;
    private static final int TONE = 49;
    private static final int RATE = 50;
    private static final int SENT = 51;
    private static final int WIRE = 52;
    private static final int TURN = 53;
    private static final int FACE = 54;
    private static final int STEP = 55;
    private static final int AT = 56;
    private static final int ROD = 57;
    private static final int TWIST = 58;
    private static final int ONE = 59;
    private static final int OTHER = 60;
    private static final int FLOW = 61;
    private static final int HEAT = 62;
    private static final int BROKEN = 63;
    private static final int STUBBORN = 64;
    private static final int PART_COUNT = 65;

    // By a part's number the layer that brings it; those that several layers bring are told in Unit.owns().
    private static final int[] PART_LAYER = {
        0, 0, 0, 0, 0, 0, 0, 1, 1, 1, 1, 2, 2, 2, 3, 3, 3, 4, 5, 5, 5, 6, 6, 6, 6, 7, 8, 8, 8, 9, 9, 9, 9,
        10, 10, 10, 11, 12, 13, 14, 14, 15, 15, 16, 16, 17, 17, 18, 19, 20, 20, 20, 22, 23, 23, 24, 24, 25,
        26, 26, 26, 27, 0, 0, 0
    };

    // The questions by their numbers in ask().
    private static final int ASK_MASS = 0;
    private static final int ASK_SPAN = 1;
    private static final int ASK_NEED = 2;
    private static final int ASK_TEST = 3;
    private static final int ASK_CHANNELS = 4;
    private static final int ASK_PUSH = 5;

    // The acts by their numbers in command().
    private static final int ACT_ON = 0;
    private static final int ACT_OFF = 1;
    private static final int ACT_MODE = 2;
    private static final int ACT_AIM = 3;
    private static final int ACT_RESTART = 4;
    private static final int ACT_WIPE = 5;
    private static final int ACT_STOP = 6;

    // The faults of a text.
    private static final int BAD_BYTE = 1;
    private static final int BAD_TOKEN = 2;
    private static final int BAD_NAME = 3;
    private static final int TOO_MANY = 4;
    private static final int BAD_NUMBER = 5;

    private static final int MOST_UNITS = 20;
    private static final int MOST_ITEMS = 30;
    private static final int MOST_TICKS = 1000;
    private static final int LARGEST_ROOM = 2000;
    private static final int CIRCLE = 3600;
    private static final int AXIS_COUNT = 3;
    private static final int BLIND = 9999;

    private final Text text;
    private final Book book;
    private final Yard yard;
    private final Flight flight;
    private Plan draft;

    public SmallCraft() {
        Yard shared = new Yard();
        text = new Text();
        book = new Book();
        yard = shared;
        flight = new Flight(shared);
        draft = new Plan();
    }

    public int feed(int a, int b, int c, int d, int e) {
        if (!text.hasPlaceFor(20)) {
            return NONE;
        }
        text.append(a);
        text.append(b);
        text.append(c);
        text.append(d);
        text.append(e);
        return text.size();
    }

    public int load(int n) throws IllegalArgumentException {
        if (n < 0 || n > text.size()) {
            throw new IllegalArgumentException("no such length");
        }
        text.begin(n);
        boolean good = book.readFrom(text);
        text.empty();
        if (!good) {
            return NONE;
        }
        yard.build(book);
        flight.begin();
        return yard.size();
    }

    public int plan(int n) throws IllegalArgumentException {
        if (n < 0 || n > text.size()) {
            throw new IllegalArgumentException("no such length");
        }
        text.begin(n);
        boolean good = draft.readFrom(text, yard);
        text.empty();
        if (!good) {
            return NONE;
        }
        draft = flight.exchangePlan(draft);
        return flight.planned().size();
    }

    public int fault(int what) {
        if (what == 0) {
            return text.faultCode();
        }
        return what == 1 ? text.faultPlace() : NONE;
    }

    public int run(int n) throws IllegalStateException, IllegalArgumentException {
        if (yard.size() == 0) {
            throw new IllegalStateException("no units");
        }
        if (n < 0 || n > MOST_TICKS) {
            throw new IllegalArgumentException("no such number of ticks");
        }
        for (int i = 0; i < n; i++) {
            flight.tick();
        }
        return flight.ticksSoFar();
    }

    public boolean command(int act, int a, int b) throws IllegalArgumentException {
        if (yard.size() == 0 || !isAct(act, a, b)) {
            throw new IllegalArgumentException("no such act");
        }
        return flight.perform(act, a, b);
    }

    public int part(int unit, int what) throws IndexOutOfBoundsException, NoSuchElementException {
        checkUnit(unit);
        Unit it = yard.unitAt(unit);
        if (!it.owns(what)) {
            throw new NoSuchElementException("no such part");
        }
        return it.value(what);
    }

    public int ask(int unit, int question) throws IndexOutOfBoundsException, NoSuchElementException {
        checkUnit(unit);
        Unit it = yard.unitAt(unit);
        if (!it.tells(question)) {
            throw new NoSuchElementException("no such question");
        }
        return it.answer(question);
    }

    public int note(int i, int what) throws NoSuchElementException {
        if (!yard.hasNote(i) || what < 0 || what > 2) {
            throw new NoSuchElementException("no such note");
        }
        return yard.noteValue(i, what);
    }

    public int at(int address) {
        return yard.unitWithAddress(address);
    }

    public int name(int unit, int k) throws IndexOutOfBoundsException {
        checkUnit(unit);
        if (k < 0) {
            throw new IndexOutOfBoundsException("no such letter");
        }
        int letter = letterOf(yard.unitAt(unit).title, k);
        return letter == 0 ? NONE : letter;
    }

    public int kept(int unit, int i) throws IndexOutOfBoundsException, IllegalArgumentException {
        checkUnit(unit);
        Unit it = yard.unitAt(unit);
        if (!it.is(RECORDER)) {
            throw new IllegalArgumentException("no recorder");
        }
        return it.keptByte(i);
    }

    public int down(int i) {
        return flight.downlink().latest(i);
    }

    public int item(int i, int what) {
        Plan current = flight.planned();
        if (i < 0 || i >= current.size()) {
            return NONE;
        }
        Item it = current.itemAt(i);
        switch (what) {
            case 0:
                return it.dueCount;
            case 1:
                return it.refusedCount;
            case 2:
                return it.stopped ? 1 : 0;
            default:
                return NONE;
        }
    }

    public int craft(int what) {
        switch (what) {
            case 0:
                return yard.size();
            case 12:
                return yard.drawsTaken();
            case 13:
                return yard.addressNow();
            case 14:
                return yard.reserveNow();
            case 15:
                return yard.notesTaken();
            case 20:
                return flight.downlink().byteCount();
            case 23:
                return yard.restartsDone();
            case 24:
                return flight.planned().size();
            default:
                return what >= 3 && what <= 11 ? flight.steering().value(what - 3) : flight.gauge(what);
        }
    }

    private void checkUnit(int unit) throws IndexOutOfBoundsException {
        if (!yard.has(unit)) {
            throw new IndexOutOfBoundsException("no such unit");
        }
    }

    private boolean isAct(int act, int a, int b) {
        switch (act) {
            case ACT_ON:
            case ACT_OFF:
            case ACT_RESTART:
                return yard.has(a);
            case ACT_WIPE:
                return yard.has(a) && yard.unitAt(a).is(RECORDER);
            case ACT_MODE:
                return within(a, 0, 3);
            case ACT_AIM:
                return within(a, 0, AXIS_COUNT - 1) && within(b, 0, CIRCLE - 1);
            case ACT_STOP:
                return within(a, 0, MOST_ITEMS - 1);
            default:
                return false;
        }
    }

    private static boolean within(int x, int least, int greatest) {
        return x >= least && x <= greatest;
    }

    private static int limit(int x, int least, int greatest) {
        if (x < least) {
            return least;
        }
        return x > greatest ? greatest : x;
    }

    /** OFF of the document: the way from angle a to angle b, from -1800 to 1799. */
    private static int off(int a, int b) {
        return Math.floorMod(b - a + CIRCLE / 2, CIRCLE) - CIRCLE / 2;
    }

    /** Whether t is a multiple of step; a step that is not above 0 has none. */
    private static boolean isMultiple(int t, int step) {
        return step > 0 && Math.floorMod(t, step) == 0;
    }

    /** Letter k of a word that is held in a long, eight bits a letter, the first lowest; 0 behind its end. */
    private static int letterOf(long word, int k) {
        return within(k, 0, 7) ? (int) (word >>> (8 * k)) & 255 : 0;
    }

    /** The tape, and the tokens of a text on it, each read as it is wanted. */
    private static final class Text {
        private static final int MOST_BYTES = 4000;
        private static final int TYPE_END = 0;
        private static final int TYPE_WORD = 1;
        private static final int TYPE_NUMBER = 2;
        private static final int TYPE_SIGN = 3;
        private static final int TYPE_BAD = 4;

        private final int[] bytes = new int[MOST_BYTES];
        private int length;
        private int end;
        private int spot;
        private int type;
        private int start;
        private int value;
        private long word;
        private int fault;
        private int place = NONE;

        int size() {
            return length;
        }

        void empty() {
            length = 0;
        }

        boolean hasPlaceFor(int more) {
            return length + more <= MOST_BYTES;
        }

        void append(int four) {
            for (int shift = 24; shift >= 0 && length < bytes.length; shift -= 8) {
                bytes[length] = four >>> shift & 255;
                length++;
            }
        }

        void begin(int n) {
            end = n;
            spot = 0;
            fault = 0;
            place = NONE;
        }

        int faultCode() {
            return fault;
        }

        int faultPlace() {
            return place;
        }

        int number() {
            return value;
        }

        long wordRead() {
            return word;
        }

        boolean isEnd() {
            return type == TYPE_END;
        }

        boolean isAnyWord() {
            return type == TYPE_WORD;
        }

        boolean isSign(int sign) {
            return type == TYPE_SIGN && value == sign;
        }

        boolean isWord(String letters) {
            if (type != TYPE_WORD || letterOf(word, letters.length()) != 0) {
                return false;
            }
            for (int k = 0; k < letters.length(); k++) {
                if (letterOf(word, k) != letters.charAt(k)) {
                    return false;
                }
            }
            return true;
        }

        /** Tells a fault at the token that was read last, unless its own bytes were at fault; always false. */
        boolean refuse(int code) {
            if (type != TYPE_BAD) {
                fault = code;
                place = start;
            }
            return false;
        }

        boolean takeNumber() {
            next();
            return type == TYPE_NUMBER || refuse(BAD_TOKEN);
        }

        boolean takeNumber(int least, int greatest) {
            next();
            if (type != TYPE_NUMBER) {
                return refuse(BAD_TOKEN);
            }
            return within(value, least, greatest) || refuse(BAD_NUMBER);
        }

        boolean takeSign(int sign) {
            next();
            return isSign(sign) || refuse(BAD_TOKEN);
        }

        void next() {
            while (spot < end && isBlank(byteAt(spot))) {
                spot++;
            }
            start = spot;
            int first = byteAt(spot);
            if (first == NONE) {
                type = TYPE_END;
            } else if (isLetter(first)) {
                readWord();
            } else if (isDigit(first) || first == '-') {
                readNumber();
            } else if (first == ';' || first == '<' || first == '>') {
                type = TYPE_SIGN;
                value = first;
                spot++;
            } else {
                spoil();
            }
        }

        private void readWord() {
            type = TYPE_WORD;
            word = 0;
            for (int k = 0; k < 8 && isLetterOrDigit(byteAt(spot)); k++) {
                word |= (long) byteAt(spot) << (8 * k);
                spot++;
            }
            if (isLetterOrDigit(byteAt(spot))) {
                spoil();
            }
        }

        private void readNumber() {
            boolean negative = byteAt(spot) == '-';
            if (negative) {
                spot++;
            }
            type = TYPE_NUMBER;
            value = 0;
            int digits = 0;
            for (; digits < 5 && isDigit(byteAt(spot)); digits++) {
                value = value * 10 + byteAt(spot) - '0';
                spot++;
            }
            if (negative) {
                value = -value;
            }
            if (digits == 0 || isDigit(byteAt(spot))) {
                spoil();
            }
        }

        private void spoil() {
            type = TYPE_BAD;
            fault = BAD_BYTE;
            place = spot;
        }

        private int byteAt(int i) {
            return i >= 0 && i < end && i < bytes.length ? bytes[i] : NONE;
        }

        private static boolean isBlank(int b) {
            return b == 32 || b == 10;
        }

        private static boolean isLetter(int b) {
            return b >= 'a' && b <= 'z';
        }

        private static boolean isDigit(int b) {
            return b >= '0' && b <= '9';
        }

        private static boolean isLetterOrDigit(int b) {
            return b >= 'a' && b <= 'z' || b >= '0' && b <= '9';
        }
    }

    /** The words that a unit can be told by in a book, each with its layer and the forms of its numbers. */
    private enum Kind {
        BATTERIES("battery", BATTERY, Book.FORM_ROOM, Book.FORM_NONE, Book.FORM_NONE),
        CELLPACKS("cellpack", CELLPACK, Book.FORM_ROOM, Book.FORM_CELLS, Book.FORM_NONE),
        TANKS("tank", TANK, Book.FORM_ROOM, Book.FORM_NONE, Book.FORM_NONE),
        RECORDERS("recorder", RECORDER, Book.FORM_PAGES, Book.FORM_NONE, Book.FORM_NONE),
        HEATERS("heater", HEATER, Book.FORM_FIFTY, Book.FORM_NONE, Book.FORM_NONE),
        THERMOS("thermo", THERMO, Book.FORM_FIFTY, Book.FORM_UNIT, Book.FORM_TARGET),
        GYROS("gyro", GYRO, Book.FORM_FIFTY, Book.FORM_FIFTY, Book.FORM_AXIS),
        FINEGYROS("finegyro", FINEGYRO, Book.FORM_FIFTY, Book.FORM_FIFTY, Book.FORM_AXIS),
        SUNEYES("suneye", SUNEYE, Book.FORM_FIFTY, Book.FORM_FIFTY, Book.FORM_NONE),
        PROBES("probe", PROBE, Book.FORM_FIFTY, Book.FORM_FIFTY, Book.FORM_UNIT),
        CAMERAS("camera", CAMERA, Book.FORM_FIFTY, Book.FORM_FIFTY, Book.FORM_RECORDER),
        WHEELS("wheel", WHEEL, Book.FORM_FIFTY, Book.FORM_AXIS, Book.FORM_NONE),
        COILS("coil", COIL, Book.FORM_FIFTY, Book.FORM_AXIS, Book.FORM_NONE),
        JETS("jet", JET, Book.FORM_FIFTY, Book.FORM_AXIS, Book.FORM_TANK),
        PULSERS("pulser", PULSER, Book.FORM_FIFTY, Book.FORM_AXIS, Book.FORM_TANK),
        RADIOS("radio", RADIO, Book.FORM_FIFTY, Book.FORM_RATE, Book.FORM_NONE),
        BEACONS("beacon", BEACON, Book.FORM_FIFTY, Book.FORM_RATE, Book.FORM_NONE),
        PANELS("panel", PANEL, Book.FORM_POWER, Book.FORM_FACE, Book.FORM_NONE),
        TRACKERS("tracker", TRACKER, Book.FORM_POWER, Book.FORM_FACE, Book.FORM_NONE),
        REACTORS("reactor", GENERATOR, Book.FORM_POWER, Book.FORM_TANK, Book.FORM_NONE),
        PIPES("pipe", PIPE, Book.FORM_UNIT, Book.FORM_UNIT, Book.FORM_NONE),
        HOSES("hose", HOSE, Book.FORM_TANK, Book.FORM_TANK, Book.FORM_FLOW);

        private static final Kind[] ALL = values();

        private final String word;
        private final int layer;
        private final int form1;
        private final int form2;
        private final int form3;

        Kind(String word, int layer, int form1, int form2, int form3) {
            this.word = word;
            this.layer = layer;
            this.form1 = form1;
            this.form2 = form2;
            this.form3 = form3;
        }

        int formOf(int k) {
            if (k == 0) {
                return form1;
            }
            return k == 1 ? form2 : form3;
        }

        /** The kind whose word was read last; null if it is none. */
        static Kind readIn(Text text) {
            for (int i = 0; i < ALL.length; i++) {
                if (text.isWord(ALL[i].word)) {
                    return ALL[i];
                }
            }
            return null;
        }
    }

    /** What was read of a book: it is filled ahead of any change, so that a fault leaves the units alone. */
    private static final class Book {
        private static final int FORM_NONE = 0;
        private static final int FORM_ROOM = 1;
        private static final int FORM_PAGES = 2;
        private static final int FORM_CELLS = 3;
        private static final int FORM_FIFTY = 4;
        private static final int FORM_UNIT = 5;
        private static final int FORM_TANK = 6;
        private static final int FORM_RECORDER = 7;
        private static final int FORM_TARGET = 8;
        private static final int FORM_AXIS = 9;
        private static final int FORM_RATE = 10;
        private static final int FORM_POWER = 11;
        private static final int FORM_FACE = 12;
        private static final int FORM_FLOW = 13;

        private final int[] layers = new int[MOST_UNITS];
        private final long[] titles = new long[MOST_UNITS];
        private final int[] numbers = new int[3 * MOST_UNITS];
        private int count;

        int size() {
            return count;
        }

        int layerOf(int i) {
            return i >= 0 && i < layers.length ? layers[i] : NONE;
        }

        long titleOf(int i) {
            return i >= 0 && i < titles.length ? titles[i] : 0;
        }

        int numberOf(int i, int k) {
            int spot = 3 * i + k;
            return spot >= 0 && spot < numbers.length ? numbers[spot] : 0;
        }

        boolean readFrom(Text text) {
            count = 0;
            // One round more than there may be units: it meets the end, or refuses the kind that is too many.
            for (int i = 0; i <= MOST_UNITS; i++) {
                text.next();
                if (text.isEnd()) {
                    return true;
                }
                if (!readUnit(text)) {
                    return false;
                }
            }
            return false;
        }

        private boolean readUnit(Text text) {
            Kind kind = Kind.readIn(text);
            if (kind == null) {
                return text.refuse(BAD_TOKEN);
            }
            if (count < 0 || count >= MOST_UNITS) {
                return text.refuse(TOO_MANY);
            }
            text.next();
            if (!text.isAnyWord()) {
                return text.refuse(BAD_TOKEN);
            }
            if (isTaken(text.wordRead())) {
                return text.refuse(BAD_NAME);
            }
            layers[count] = kind.layer;
            titles[count] = text.wordRead();
            if (!readNumbers(text, kind) || !text.takeSign(';')) {
                return false;
            }
            count++;
            return true;
        }

        private boolean readNumbers(Text text, Kind kind) {
            for (int k = 0; k < 3; k++) {
                int form = kind.formOf(k);
                int spot = 3 * count + k;
                if (form == FORM_NONE || spot < 0 || spot >= numbers.length) {
                    return true;
                }
                if (!text.takeNumber()) {
                    return false;
                }
                if (!fits(form, text.number())) {
                    return text.refuse(BAD_NUMBER);
                }
                numbers[spot] = text.number();
            }
            return true;
        }

        private boolean isTaken(long title) {
            for (int i = 0; i < count && i < titles.length; i++) {
                if (titles[i] == title) {
                    return true;
                }
            }
            return false;
        }

        private boolean fits(int form, int x) {
            switch (form) {
                case FORM_ROOM:
                    return within(x, 1, LARGEST_ROOM);
                case FORM_PAGES:
                    return within(x, 20, LARGEST_ROOM);
                case FORM_CELLS:
                    return within(x, 1, 8);
                case FORM_FIFTY:
                    return within(x, 1, 50);
                case FORM_UNIT:
                    return within(x, 0, count - 1);
                case FORM_TANK:
                    return within(x, 0, count - 1) && layerOf(x) == TANK;
                case FORM_RECORDER:
                    return within(x, 0, count - 1) && layerOf(x) == RECORDER;
                case FORM_TARGET:
                    return within(x, -300, 900);
                case FORM_AXIS:
                    return within(x, 0, AXIS_COUNT - 1);
                case FORM_RATE:
                    return within(x, 1, 40);
                case FORM_POWER:
                    return within(x, 1, 200);
                case FORM_FACE:
                    return within(x, 0, 3);
                case FORM_FLOW:
                    return within(x, 1, 9);
                default:
                    return false;
            }
        }
    }

    /** A place for a unit: what stands in it is made anew at every load and restart, its rows are used again. */
    private static final class Unit {
        private final int[] parts = new int[PART_COUNT];
        private final int[] layers = new int[MOST_LAYERS];
        private final int[] row = new int[LARGEST_ROOM];
        private long title;
        private int a1;
        private int a2;
        private int a3;
        private int height;
        private int layerBits;
        private int head;

        void describe(Book book, int i) {
            title = book.titleOf(i);
            a1 = book.numberOf(i, 0);
            a2 = book.numberOf(i, 1);
            a3 = book.numberOf(i, 2);
            stackLayers(book.layerOf(i));
        }

        /** Puts the layers in their order, the lowest one first. */
        private void stackLayers(int uppermost) {
            height = 0;
            layerBits = 0;
            int layer = uppermost;
            for (int i = 0; i < MOST_LAYERS && layer >= 0 && layer < LAYER_BELOW.length; i++) {
                layerBits |= 1 << layer;
                layer = LAYER_BELOW[layer];
            }
            for (int code = 0; code < LAYER_BELOW.length; code++) {
                if (is(code) && height < layers.length) {
                    layers[height] = code;
                    height++;
                }
            }
            parts[NAMED] = uppermost;
        }

        /** All parts 0 but the constants, which have their numbers ahead of their layers. */
        void clear(int number) {
            for (int k = NUMBER; k < parts.length; k++) {
                parts[k] = 0;
            }
            head = 0;
            parts[NUMBER] = number;
            parts[GRADE] = 3;
            parts[POLE] = 7;
            parts[STEP] = 5;
            parts[HEAT] = 200;
        }

        boolean is(int layer) {
            return (layerBits >>> layer & 1) == 1;
        }

        boolean isOn(int layer) {
            return is(layer) && parts[ON] == 1;
        }

        boolean isWhole(int layer) {
            return is(layer) && parts[BROKEN] == 0;
        }

        boolean owns(int what) {
            switch (what) {
                case OF:
                    return is(THERMO) || is(PROBE) || is(CAMERA) || is(JET) || is(GENERATOR);
                case EVERY:
                    return is(SENSOR) || is(BEACON);
                case AXIS:
                    return is(GYRO) || is(ACTUATOR);
                case SHOTS:
                    return is(CAMERA) || is(JET);
                case MOST:
                    return is(WHEEL) || is(SOURCE);
                case FLOW:
                    return is(PIPE) || is(HOSE);
                default:
                    return what >= 0 && what < PART_LAYER.length && is(PART_LAYER[what]);
            }
        }

        int value(int what) {
            return what >= 0 && what < parts.length ? parts[what] : 0;
        }

        boolean tells(int question) {
            if (question == ASK_CHANNELS) {
                return is(SENSOR);
            }
            return question == ASK_PUSH ? is(ACTUATOR) : within(question, ASK_MASS, ASK_TEST);
        }

        int answer(int question) {
            switch (question) {
                case ASK_MASS:
                    return mass();
                case ASK_SPAN:
                    return span();
                case ASK_NEED:
                    return need();
                case ASK_TEST:
                    return test();
                case ASK_CHANNELS:
                    return channels();
                case ASK_PUSH:
                    return push();
                default:
                    return 0;
            }
        }

        // Each question goes through the layers from the lowest upwards: one that tells an answer makes it of the
        // one below, so that in the end it is that of the uppermost one, made or not.

        int mass() {
            int x = 0;
            for (int i = 0; i < height && i < layers.length; i++) {
                switch (layers[i]) {
                    case UNIT: x = 5; break;
                    case STORE: x = 8 + parts[ROOM] / 10; break;
                    case LOAD: x = x + parts[WATTS] / 5; break;
                    case SOURCE: x = x + parts[MOST] / 20; break;
                    case PIPE: x = x + parts[FLOW]; break;
                    default: break;
                }
            }
            return x;
        }

        int span() {
            int x = 0;
            for (int i = 0; i < height && i < layers.length; i++) {
                switch (layers[i]) {
                    case UNIT: x = 1; break;
                    case STORE: x = 1 + parts[ROOM] / 50; break;
                    case CELLPACK: x = 2 + parts[CELLS] + parts[GRADE]; break;
                    case RECORDER: x = x + parts[PAGES]; break;
                    case SENSOR: x = x + parts[CHANNELS]; break;
                    case CAMERA: x = x + parts[LENS]; break;
                    case PULSER: x = 3; break;
                    case RADIO: x = 2 + parts[TONE] % 3; break;
                    case PANEL: x = 1 + parts[FACE]; break;
                    case TRACKER: x = x + parts[STEP]; break;
                    case LINK: x = 1 + parts[ONE] % 2; break;
                    default: break;
                }
            }
            return x;
        }

        int need() {
            int x = 0;
            for (int i = 0; i < height && i < layers.length; i++) {
                switch (layers[i]) {
                    case UNIT: x = 0; break;
                    case BATTERY: x = 2 + parts[WEAR] + parts[GRADE]; break;
                    case CELLPACK: x = parts[CELLS] * 2 + parts[PAIRS]; break;
                    case LOAD: x = parts[WATTS]; break;
                    case HEATER: x = x + parts[GLOW] / 4; break;
                    case SENSOR: x = x + parts[CHANNELS]; break;
                    case TRACKER: x = 3; break;
                    default: break;
                }
            }
            return x;
        }

        int test() {
            int x = 0;
            for (int i = 0; i < height && i < layers.length; i++) {
                switch (layers[i]) {
                    case UNIT: x = parts[SERIAL] + parts[MASS]; break;
                    case STORE: x = x + parts[SEAL] - parts[ROOM]; break;
                    case BATTERY: x = x + parts[WEAR] * parts[GRADE]; break;
                    case TANK: x = x * 2 - parts[VALVE]; break;
                    case THERMO: x = x + parts[BAND] - parts[TARGET]; break;
                    case FINEGYRO: x = x * 3 + parts[FINE]; break;
                    case ACTUATOR: x = x + parts[PUSH]; break;
                    case BEACON: x = x - parts[EVERY]; break;
                    case GENERATOR: x = x + parts[ROD]; break;
                    case HOSE: x = x - parts[FLOW]; break;
                    default: break;
                }
            }
            return x;
        }

        int channels() {
            int x = 0;
            for (int i = 0; i < height && i < layers.length; i++) {
                switch (layers[i]) {
                    case SENSOR: x = 1; break;
                    case GYRO: x = parts[AXES]; break;
                    case FINEGYRO: x = x + parts[FINE]; break;
                    case SUNEYE: x = 2; break;
                    case PROBE: x = x + parts[SHIFT]; break;
                    case CAMERA: x = 3 + parts[LENS]; break;
                    default: break;
                }
            }
            return x;
        }

        int push() {
            int x = 0;
            for (int i = 0; i < height && i < layers.length; i++) {
                switch (layers[i]) {
                    case ACTUATOR: x = 4 + parts[AXIS]; break;
                    case WHEEL: x = 2 + parts[MOST] / 100; break;
                    case COIL: x = parts[POLE] + parts[TURNS] - x; break;
                    case JET: x = x * (1 + parts[GAS]); break;
                    case PULSER: x = x / 2 + parts[BEAT]; break;
                    default: break;
                }
            }
            return x;
        }

        boolean hasRoomFor(int more) {
            return parts[ROOM] - parts[LEVEL] >= more;
        }

        void keepByte(int b) {
            row[Math.floorMod(head + parts[LEVEL], LARGEST_ROOM)] = b;
            parts[LEVEL]++;
        }

        int keptByte(int i) {
            return i >= 0 && i < parts[LEVEL] ? row[Math.floorMod(head + i, LARGEST_ROOM)] : NONE;
        }

        void dropFirst() {
            head = Math.floorMod(head + 1, LARGEST_ROOM);
            parts[LEVEL]--;
        }
    }

    /** Where the units are made: they, and what the craft counts while they are made. */
    private static final class Yard {
        private static final int KEPT_NOTES = 100;
        private static final int MOST_RESTARTS = 30;

        private final Unit[] units = new Unit[MOST_UNITS];
        private final Unit nobody = new Unit();
        private final int[] notes = new int[3 * KEPT_NOTES];
        private int count;
        private int draws;
        private int address;
        private int reserve;
        private int noteCount;
        private int restarts;

        Yard() {
            for (int i = 0; i < units.length; i++) {
                units[i] = new Unit();
            }
        }

        int size() {
            return count;
        }

        boolean has(int i) {
            return i >= 0 && i < count;
        }

        /** The unit with a number; one without layers, if there is none such. */
        Unit unitAt(int i) {
            return has(i) && i < units.length ? units[i] : nobody;
        }

        int unitTitled(long title) {
            for (int i = 0; i < count; i++) {
                if (unitAt(i).title == title) {
                    return i;
                }
            }
            return NONE;
        }

        int unitWithAddress(int where) {
            int found = NONE;
            for (int i = 0; i < count; i++) {
                int base = unitAt(i).parts[BASE];
                boolean holds = where >= base && where - base < unitAt(i).parts[WIDTH];
                if (holds && (found == NONE || base > unitAt(found).parts[BASE])) {
                    found = i;
                }
            }
            return found;
        }

        int drawsTaken() {
            return draws;
        }

        int addressNow() {
            return address;
        }

        int reserveNow() {
            return reserve;
        }

        int notesTaken() {
            return noteCount;
        }

        int restartsDone() {
            return restarts;
        }

        boolean hasNote(int i) {
            return i >= 0 && i < noteCount && i < KEPT_NOTES;
        }

        int noteValue(int i, int what) {
            int spot = 3 * i + what;
            return spot >= 0 && spot < notes.length ? notes[spot] : NONE;
        }

        void build(Book book) {
            count = book.size();
            draws = 0;
            address = 0;
            reserve = 0;
            noteCount = 0;
            restarts = 0;
            for (int i = 0; i < count; i++) {
                unitAt(i).describe(book, i);
                make(unitAt(i), i);
            }
            for (int i = 0; i < count; i++) {
                judge(unitAt(i));
            }
        }

        boolean restart(int i) {
            if (restarts >= MOST_RESTARTS) {
                return false;
            }
            restarts++;
            make(unitAt(i), i);
            judge(unitAt(i));
            return true;
        }

        private void judge(Unit u) {
            boolean odd = Math.floorMod(u.test() - u.parts[COLD], 2) == 1;
            u.parts[STUBBORN] = odd ? 1 : 0;
        }

        private int draw() {
            draws++;
            return draws;
        }

        private void jot(Unit u, int layer, int x) {
            int spot = 3 * noteCount;
            if (spot >= 0 && spot + 2 < notes.length) {
                notes[spot] = u.parts[NUMBER];
                notes[spot + 1] = layer;
                notes[spot + 2] = x;
            }
            noteCount++;
        }

        private void make(Unit u, int number) {
            u.clear(number);
            for (int i = 0; i < u.height && i < u.layers.length; i++) {
                switch (u.layers[i]) {
                    case UNIT: makeUnit(u); break;
                    case STORE: makeStore(u); break;
                    case BATTERY: makeBattery(u); break;
                    case CELLPACK: makeCellpack(u); break;
                    case TANK: makeTank(u); break;
                    case RECORDER: makeRecorder(u); break;
                    case LOAD: makeLoad(u); break;
                    case HEATER: makeHeater(u); break;
                    case THERMO: makeThermo(u); break;
                    case SENSOR: makeSensor(u); break;
                    case GYRO: makeGyro(u); break;
                    case FINEGYRO: makeFinegyro(u); break;
                    case SUNEYE: makeSuneye(u); break;
                    case PROBE: makeProbe(u); break;
                    case CAMERA: makeCamera(u); break;
                    case ACTUATOR: makeActuator(u); break;
                    case WHEEL: makeWheel(u); break;
                    case COIL: makeCoil(u); break;
                    case JET: makeJet(u); break;
                    case PULSER: makePulser(u); break;
                    case RADIO: makeRadio(u); break;
                    case BEACON: makeBeacon(u); break;
                    case SOURCE: makeSource(u); break;
                    case PANEL: makePanel(u); break;
                    case TRACKER: makeTracker(u); break;
                    case GENERATOR: makeGenerator(u); break;
                    case LINK: makeLink(u); break;
                    case PIPE: makePipe(u); break;
                    case HOSE: makeHose(u); break;
                    default: break;
                }
            }
        }

        private void makeUnit(Unit u) {
            int[] p = u.parts;
            p[SERIAL] = draw();
            p[MASS] = u.mass();
            p[BASE] = address;
            p[WIDTH] = Math.max(1, u.span());
            address += p[WIDTH];
            p[COLD] = u.test();
            jot(u, UNIT, p[COLD]);
        }

        private void makeStore(Unit u) {
            int[] p = u.parts;
            p[SEAL] = draw() + p[MASS];
            p[SPARE] = u.span();
            p[ROOM] = u.a1;
            p[LEVEL] = p[ROOM] / 2;
            jot(u, STORE, p[SPARE]);
        }

        private void makeBattery(Unit u) {
            int[] p = u.parts;
            p[WEAR] = draw() % 5;
            p[LEVEL] = p[ROOM] * 3 / 4;
            p[TOP] = u.need();
            jot(u, BATTERY, p[TOP]);
        }

        private void makeCellpack(Unit u) {
            int[] p = u.parts;
            p[PAIRS] = 2;
            p[CAP] = p[TOP] * 2 + p[WEAR];
            p[CELLS] = u.a2;
            p[LEVEL] = p[LEVEL] * p[CELLS] / 8;
            p[TOP] = u.need();
            jot(u, CELLPACK, p[LEVEL] + p[CAP]);
        }

        private void makeTank(Unit u) {
            int[] p = u.parts;
            p[VALVE] = p[BASE] % 4;
            p[LEVEL] = p[ROOM];
            jot(u, TANK, p[VALVE]);
        }

        private void makeRecorder(Unit u) {
            int[] p = u.parts;
            p[PAGES] = p[ROOM] / 10;
            p[FIRST] = p[LEVEL];
            p[LEVEL] = 0;
            p[KEEP] = u.span();
            jot(u, RECORDER, p[KEEP] + p[FIRST]);
        }

        private void makeLoad(Unit u) {
            int[] p = u.parts;
            p[LINE] = (p[SERIAL] + draw()) % 3;
            p[ON] = 0;
            p[WATTS] = u.a1;
            p[SHARE] = u.need();
            reserve += p[SHARE];
            jot(u, LOAD, p[SHARE]);
        }

        private void makeHeater(Unit u) {
            int[] p = u.parts;
            p[GLOW] = u.need() + 1;
            jot(u, HEATER, p[GLOW]);
        }

        private void makeThermo(Unit u) {
            int[] p = u.parts;
            p[BAND] = 5 + p[LINE] * 5 + p[GLOW] / 8;
            p[OF] = u.a2;
            p[TARGET] = u.a3;
            jot(u, THERMO, u.test());
        }

        private void makeSensor(Unit u) {
            int[] p = u.parts;
            p[NOISE] = draw() % 7;
            p[CHANNELS] = u.channels();
            p[EVERY] = u.a2;
            p[READING] = 0;
            jot(u, SENSOR, p[CHANNELS]);
        }

        private void makeGyro(Unit u) {
            int[] p = u.parts;
            p[DRIFT] = p[NOISE] - 3;
            p[AXES] = 1;
            p[AXIS] = u.a3;
            p[CHANNELS] = u.channels();
            jot(u, GYRO, p[DRIFT]);
        }

        private void makeFinegyro(Unit u) {
            int[] p = u.parts;
            p[DRIFT] = p[DRIFT] / 2;
            p[FINE] = draw() % 4 + 1;
            p[AXES] = 3;
            p[CHANNELS] = u.channels();
            jot(u, FINEGYRO, p[CHANNELS]);
        }

        private void makeSuneye(Unit u) {
            int[] p = u.parts;
            p[WIDE] = 600 + p[NOISE] * 40;
            jot(u, SUNEYE, p[WIDE]);
        }

        private void makeProbe(Unit u) {
            int[] p = u.parts;
            p[SHIFT] = p[NOISE] - 2;
            p[OF] = u.a3;
            jot(u, PROBE, p[SHIFT]);
        }

        private void makeCamera(Unit u) {
            int[] p = u.parts;
            p[LENS] = p[CHANNELS] + draw() % 3;
            p[OF] = u.a3;
            p[SHOTS] = 0;
            jot(u, CAMERA, p[LENS]);
        }

        private void makeActuator(Unit u) {
            int[] p = u.parts;
            p[KICK] = u.push();
            p[AXIS] = u.a2;
            p[PUSH] = u.push();
            jot(u, ACTUATOR, p[PUSH] - p[KICK]);
        }

        private void makeWheel(Unit u) {
            int[] p = u.parts;
            p[MOST] = 200 + p[SERIAL];
            p[SPEED] = 0;
            jot(u, WHEEL, p[MOST] - p[PUSH]);
        }

        private void makeCoil(Unit u) {
            int[] p = u.parts;
            p[TURNS] = p[KICK] * 2;
            p[PUSH] = u.push();
            jot(u, COIL, p[PUSH]);
        }

        private void makeJet(Unit u) {
            int[] p = u.parts;
            p[GAS] = draw() % 3 + 1;
            p[OF] = u.a3;
            p[SHOTS] = 0;
            jot(u, JET, u.push());
        }

        private void makePulser(Unit u) {
            int[] p = u.parts;
            p[BEAT] = p[GAS] + 1;
            p[PUSH] = u.push();
            jot(u, PULSER, p[PUSH]);
        }

        private void makeRadio(Unit u) {
            int[] p = u.parts;
            p[TONE] = p[BASE] * 2 + 1;
            p[RATE] = u.a2;
            p[SENT] = 0;
            jot(u, RADIO, p[TONE]);
        }

        private void makeBeacon(Unit u) {
            int[] p = u.parts;
            p[EVERY] = 10 + p[TONE] % 7;
            p[RATE] = p[RATE] / 2 + 1;
            jot(u, BEACON, p[RATE]);
        }

        private void makeSource(Unit u) {
            int[] p = u.parts;
            p[WIRE] = draw() % 3;
            p[MOST] = u.a1;
            jot(u, SOURCE, u.mass());
        }

        private void makePanel(Unit u) {
            int[] p = u.parts;
            p[TURN] = p[WIRE] * 10;
            p[FACE] = u.a2;
            jot(u, PANEL, p[TURN] + p[FACE]);
        }

        private void makeTracker(Unit u) {
            int[] p = u.parts;
            p[AT] = (p[FACE] * 900 + p[TURN]) % CIRCLE;
            jot(u, TRACKER, p[AT]);
        }

        private void makeGenerator(Unit u) {
            int[] p = u.parts;
            p[ROD] = p[MASS] * 2 + p[WIRE];
            p[OF] = u.a2;
            jot(u, GENERATOR, p[ROD]);
        }

        private void makeLink(Unit u) {
            int[] p = u.parts;
            p[TWIST] = u.span() + draw() % 2;
            p[ONE] = u.a1;
            p[OTHER] = u.a2;
            jot(u, LINK, p[TWIST]);
        }

        private void makePipe(Unit u) {
            int[] p = u.parts;
            p[FLOW] = p[TWIST] + 2;
            jot(u, PIPE, p[FLOW]);
        }

        private void makeHose(Unit u) {
            int[] p = u.parts;
            p[FLOW] = p[TWIST];
            p[FLOW] += u.a3;
            jot(u, HOSE, p[FLOW] + p[ONE]);
        }
    }

    /** A line of the plan: when it is due, what is done then, and how that went. */
    private static final class Item {
        private static final int WHEN_AT = 0;
        private static final int WHEN_EACH = 1;
        private static final int WHEN_BELOW = 2;
        private static final int WHEN_ABOVE = 3;

        private static final int TERM_LEVEL = 0;
        private static final int TERM_HEAT = 1;
        private static final int TERM_SPEED = 2;
        private static final int TERM_READING = 3;
        private static final int TERM_LIGHT = 4;
        private static final int TERM_ANGLE = 5;
        private static final int TERM_RATE = 6;

        private int when;
        private int bound;
        private int term;
        private int subject;
        private int act;
        private int a;
        private int b;
        private int dueCount;
        private int refusedCount;
        private boolean stopped;
        private boolean wasSo;

        void clear() {
            when = WHEN_AT;
            bound = 0;
            term = TERM_LIGHT;
            subject = 0;
            act = ACT_ON;
            a = 0;
            b = 0;
            dueCount = 0;
            refusedCount = 0;
            stopped = false;
            wasSo = false;
        }

        boolean isWatch() {
            return when == WHEN_BELOW || when == WHEN_ABOVE;
        }

        boolean isDueAt(int t) {
            return when == WHEN_AT ? t == bound : t > 0 && isMultiple(t, bound);
        }

        /** Looks at a term's value: whether it has come below (above) the bound since the last look. */
        boolean hasCome(int value) {
            boolean isSo = when == WHEN_BELOW ? value < bound : value > bound;
            boolean came = isSo && !wasSo;
            wasSo = isSo;
            return came;
        }
    }

    /** The items of a plan in their order, and how they are read. */
    private static final class Plan {
        private final Item[] items = new Item[MOST_ITEMS];
        private final Item nothing = new Item();
        private int count;

        Plan() {
            for (int i = 0; i < items.length; i++) {
                items[i] = new Item();
            }
        }

        int size() {
            return count;
        }

        void clear() {
            count = 0;
        }

        /** The item with a number; one that is never looked at, if there is none such. */
        Item itemAt(int i) {
            return i >= 0 && i < count && i < items.length ? items[i] : nothing;
        }

        void stop(int i) {
            if (i >= 0 && i < count) {
                itemAt(i).stopped = true;
            }
        }

        boolean readFrom(Text text, Yard yard) {
            count = 0;
            // One round more than there may be items: it meets the end, or refuses the item that is too many.
            for (int i = 0; i <= MOST_ITEMS; i++) {
                text.next();
                if (text.isEnd()) {
                    return true;
                }
                if (!readItem(text, yard)) {
                    return false;
                }
            }
            return false;
        }

        private boolean readItem(Text text, Yard yard) {
            boolean isAt = text.isWord("at");
            boolean isEach = text.isWord("each");
            if (!isAt && !isEach && !text.isWord("when")) {
                return text.refuse(BAD_TOKEN);
            }
            if (count < 0 || count >= items.length) {
                return text.refuse(TOO_MANY);
            }
            Item item = items[count];
            item.clear();
            boolean good;
            if (isAt || isEach) {
                item.when = isAt ? Item.WHEN_AT : Item.WHEN_EACH;
                good = text.takeNumber(isAt ? 0 : 1, 9999);
                item.bound = text.number();
            } else {
                good = readTerm(text, yard, item) && readBound(text, item);
            }
            if (!good || !readAct(text, yard, item) || !text.takeSign(';')) {
                return false;
            }
            count++;
            return true;
        }

        private boolean readTerm(Text text, Yard yard, Item item) {
            text.next();
            item.term = termOf(text);
            switch (item.term) {
                case Item.TERM_LEVEL:
                    item.subject = readName(text, yard, STORE);
                    return item.subject != NONE;
                case Item.TERM_HEAT:
                    item.subject = readName(text, yard, UNIT);
                    return item.subject != NONE;
                case Item.TERM_SPEED:
                    item.subject = readName(text, yard, WHEEL);
                    return item.subject != NONE;
                case Item.TERM_READING:
                    item.subject = readName(text, yard, SENSOR);
                    return item.subject != NONE;
                case Item.TERM_LIGHT:
                    return true;
                case Item.TERM_ANGLE:
                case Item.TERM_RATE:
                    boolean good = text.takeNumber(0, AXIS_COUNT - 1);
                    item.subject = text.number();
                    return good;
                default:
                    return text.refuse(BAD_TOKEN);
            }
        }

        /** The term whose word was read last; NONE if it is none. */
        private static int termOf(Text text) {
            if (text.isWord("level")) {
                return Item.TERM_LEVEL;
            }
            if (text.isWord("heat")) {
                return Item.TERM_HEAT;
            }
            if (text.isWord("speed")) {
                return Item.TERM_SPEED;
            }
            if (text.isWord("reading")) {
                return Item.TERM_READING;
            }
            if (text.isWord("light")) {
                return Item.TERM_LIGHT;
            }
            if (text.isWord("angle")) {
                return Item.TERM_ANGLE;
            }
            return text.isWord("rate") ? Item.TERM_RATE : NONE;
        }

        private boolean readBound(Text text, Item item) {
            text.next();
            if (!text.isSign('<') && !text.isSign('>')) {
                return text.refuse(BAD_TOKEN);
            }
            item.when = text.isSign('<') ? Item.WHEN_BELOW : Item.WHEN_ABOVE;
            boolean good = text.takeNumber();
            item.bound = text.number();
            return good;
        }

        /** The number of the unit that is named next; NONE, and a fault, if there is none of that layer. */
        private int readName(Text text, Yard yard, int layer) {
            text.next();
            if (!text.isAnyWord()) {
                text.refuse(BAD_TOKEN);
                return NONE;
            }
            int found = yard.unitTitled(text.wordRead());
            if (found == NONE || !yard.unitAt(found).is(layer)) {
                text.refuse(BAD_NAME);
                return NONE;
            }
            return found;
        }

        private boolean readAct(Text text, Yard yard, Item item) {
            text.next();
            item.act = actOf(text);
            boolean good;
            switch (item.act) {
                case ACT_ON:
                case ACT_OFF:
                case ACT_RESTART:
                    item.a = readName(text, yard, UNIT);
                    return item.a != NONE;
                case ACT_WIPE:
                    item.a = readName(text, yard, RECORDER);
                    return item.a != NONE;
                case ACT_MODE:
                    good = text.takeNumber(0, 3);
                    item.a = text.number();
                    return good;
                case ACT_STOP:
                    good = text.takeNumber(0, MOST_ITEMS - 1);
                    item.a = text.number();
                    return good;
                case ACT_AIM:
                    good = text.takeNumber(0, AXIS_COUNT - 1);
                    item.a = text.number();
                    good = good && text.takeNumber(0, CIRCLE - 1);
                    item.b = text.number();
                    return good;
                default:
                    return text.refuse(BAD_TOKEN);
            }
        }

        /** The act whose word was read last; NONE if it is none. */
        private static int actOf(Text text) {
            if (text.isWord("on")) {
                return ACT_ON;
            }
            if (text.isWord("off")) {
                return ACT_OFF;
            }
            if (text.isWord("mode")) {
                return ACT_MODE;
            }
            if (text.isWord("aim")) {
                return ACT_AIM;
            }
            if (text.isWord("restart")) {
                return ACT_RESTART;
            }
            if (text.isWord("wipe")) {
                return ACT_WIPE;
            }
            return text.isWord("stop") ? ACT_STOP : NONE;
        }
    }

    /** How the craft lies and turns: steps 4 (modes 1 and 2) and 5 of a tick. */
    private static final class Steering {
        private final Yard yard;
        private final int[] angles = new int[AXIS_COUNT];
        private final int[] rates = new int[AXIS_COUNT];
        private final int[] aims = new int[AXIS_COUNT];

        Steering(Yard yard) {
            this.yard = yard;
        }

        void begin() {
            for (int x = 0; x < AXIS_COUNT; x++) {
                angles[x] = 0;
                rates[x] = 0;
                aims[x] = 0;
            }
        }

        int angle(int x) {
            return x >= 0 && x < angles.length ? angles[x] : 0;
        }

        int rate(int x) {
            return x >= 0 && x < rates.length ? rates[x] : 0;
        }

        int aim(int x) {
            return x >= 0 && x < aims.length ? aims[x] : 0;
        }

        /** Angles, rates and aims in one row, as craft() has them. */
        int value(int k) {
            if (k < AXIS_COUNT) {
                return angle(k);
            }
            return k < 2 * AXIS_COUNT ? rate(k - AXIS_COUNT) : aim(k - 2 * AXIS_COUNT);
        }

        void setAim(int x, int angle) {
            if (x >= 0 && x < aims.length) {
                aims[x] = angle;
            }
        }

        private void speedUp(int x, int c) {
            if (x >= 0 && x < rates.length) {
                rates[x] += c;
            }
        }

        void steer(int t, int mode) {
            for (int x = 0; x < AXIS_COUNT; x++) {
                int wish = limit(error(x, mode) / 16 - 2 * measuredRate(x), -30, 30);
                wish -= spinWheels(x, wish);
                if (isMultiple(t, 8)) {
                    driveCoils(x, wish);
                }
                unloadWheels(x, t);
            }
        }

        private int error(int x, int mode) {
            if (mode == 1) {
                return off(angle(x), aim(x));
            }
            return x == 0 ? sunError() : off(angle(x), 0);
        }

        private int sunError() {
            for (int i = 0; i < yard.size(); i++) {
                Unit u = yard.unitAt(i);
                if (u.isOn(SUNEYE)) {
                    return u.parts[READING] == BLIND ? 200 : u.parts[READING];
                }
            }
            return 200;
        }

        private int measuredRate(int x) {
            for (int i = 0; i < yard.size(); i++) {
                Unit u = yard.unitAt(i);
                if (u.isOn(GYRO) && u.parts[AXIS] == x) {
                    return u.parts[READING];
                }
            }
            return 0;
        }

        /** How much of the wish the wheels have taken. */
        private int spinWheels(int x, int wish) {
            int left = wish;
            for (int i = 0; i < yard.size(); i++) {
                Unit u = yard.unitAt(i);
                if (u.isOn(WHEEL) && u.parts[AXIS] == x) {
                    int speed = u.parts[SPEED];
                    int most = u.parts[MOST];
                    int push = u.parts[PUSH];
                    int c = limit(speed + limit(left, 0 - push, push), 0 - most, most) - speed;
                    u.parts[SPEED] += c;
                    speedUp(x, c);
                    left -= c;
                }
            }
            return wish - left;
        }

        private void driveCoils(int x, int wish) {
            int left = wish;
            for (int i = 0; i < yard.size(); i++) {
                Unit u = yard.unitAt(i);
                if (u.isOn(COIL) && u.parts[AXIS] == x && u.parts[PUSH] > 0) {
                    int c = limit(left, -1, 1);
                    speedUp(x, c);
                    left -= c;
                }
            }
        }

        private void unloadWheels(int x, int t) {
            for (int i = 0; i < yard.size(); i++) {
                Unit wheel = yard.unitAt(i);
                boolean turns = wheel.isOn(WHEEL) && wheel.parts[AXIS] == x;
                if (turns && 4 * Math.abs(wheel.parts[SPEED]) > wheel.parts[MOST]) {
                    int jet = readyJet(x, t);
                    if (jet != NONE) {
                        unload(wheel, yard.unitAt(jet));
                    }
                }
            }
        }

        private int readyJet(int x, int t) {
            for (int i = 0; i < yard.size(); i++) {
                Unit u = yard.unitAt(i);
                if (u.isOn(JET) && u.parts[AXIS] == x && hasGas(u) && (!u.is(PULSER) || isMultiple(t, u.parts[BEAT]))) {
                    return i;
                }
            }
            return NONE;
        }

        private boolean hasGas(Unit jet) {
            Unit tank = yard.unitAt(jet.parts[OF]);
            return tank.isWhole(TANK) && tank.parts[LEVEL] >= jet.parts[GAS];
        }

        private void unload(Unit wheel, Unit jet) {
            int speed = wheel.parts[SPEED];
            int less = limit(jet.parts[PUSH], 0, Math.abs(speed));
            wheel.parts[SPEED] = speed > 0 ? speed - less : speed + less;
            yard.unitAt(jet.parts[OF]).parts[LEVEL] -= jet.parts[GAS];
            jet.parts[SHOTS]++;
        }

        void turn(int t) {
            if (isMultiple(t, 50)) {
                speedUp(0, 1);
            }
            for (int x = 0; x < AXIS_COUNT; x++) {
                rates[x] = limit(rates[x], -400, 400);
                angles[x] = Math.floorMod(angles[x] + rates[x] / 4, CIRCLE);
            }
        }
    }

    /** Power, gas and heat: steps 6 to 8 of a tick. */
    private static final class Plant {
        private static final int[] SHINE = {100, 99, 96, 91, 84, 75, 64, 51, 38, 25, 14, 6, 2, 0, 0, 0};

        private final Yard yard;
        private final int[] heats = new int[MOST_UNITS];
        private int supply;
        private int demand;
        private int brownouts;
        private int failures;

        Plant(Yard yard) {
            this.yard = yard;
        }

        void begin() {
            supply = 0;
            demand = 0;
            brownouts = 0;
            failures = 0;
        }

        int supplyNow() {
            return supply;
        }

        int demandNow() {
            return demand;
        }

        int brownoutCount() {
            return brownouts;
        }

        int failureCount() {
            return failures;
        }

        void power(int t, int light, int angle) {
            supply = 0;
            for (int i = 0; i < yard.size(); i++) {
                Unit u = yard.unitAt(i);
                if (u.isWhole(SOURCE)) {
                    supply += u.is(GENERATOR) ? burn(u, t) : shine(u, light, angle);
                }
            }
            demand = 0;
            for (int i = 0; i < yard.size(); i++) {
                Unit u = yard.unitAt(i);
                if (u.isOn(LOAD) || u.isWhole(SOURCE)) {
                    demand += u.need();
                }
            }
            if (balance(supply - demand) < 0) {
                brownouts++;
                shed();
            }
        }

        private int burn(Unit generator, int t) {
            Unit tank = yard.unitAt(generator.parts[OF]);
            if (!tank.isWhole(TANK) || tank.parts[LEVEL] <= 0) {
                return 0;
            }
            if (isMultiple(t, 8)) {
                tank.parts[LEVEL]--;
            }
            return generator.parts[MOST];
        }

        private int shine(Unit panel, int light, int angle) {
            int slant = off(angle, 900 * panel.parts[FACE]);
            if (panel.is(TRACKER)) {
                int at = panel.parts[AT];
                int step = panel.parts[STEP];
                panel.parts[AT] = Math.floorMod(at + limit(off(at, angle), 0 - step, step), CIRCLE);
                slant = off(angle, panel.parts[AT]);
            }
            int k = Math.abs(slant) / 120;
            int share = k >= 0 && k < SHINE.length ? SHINE[k] : 0;
            return panel.parts[MOST] * light / 100 * share / 100;
        }

        /** Gives what is left over to the batteries, or takes from them what is missing: what remains of it. */
        private int balance(int surplus) {
            int net = surplus;
            for (int i = 0; i < yard.size(); i++) {
                Unit u = yard.unitAt(i);
                if (u.isWhole(BATTERY)) {
                    int space = net > 0 ? u.parts[ROOM] - u.parts[LEVEL] : u.parts[LEVEL];
                    int amount = Math.max(0, Math.min(Math.abs(net), Math.min(u.parts[TOP], space)));
                    int change = net > 0 ? amount : 0 - amount;
                    u.parts[LEVEL] += change;
                    net -= change;
                }
            }
            return net;
        }

        private void shed() {
            int worst = NONE;
            for (int i = 0; i < yard.size(); i++) {
                Unit u = yard.unitAt(i);
                if (u.isOn(LOAD) && (worst == NONE || u.parts[LINE] >= yard.unitAt(worst).parts[LINE])) {
                    worst = i;
                }
            }
            if (worst != NONE) {
                yard.unitAt(worst).parts[ON] = 0;
            }
        }

        void levelTanks() {
            for (int i = 0; i < yard.size(); i++) {
                Unit hose = yard.unitAt(i);
                if (hose.isWhole(HOSE)) {
                    Unit one = yard.unitAt(hose.parts[ONE]);
                    Unit other = yard.unitAt(hose.parts[OTHER]);
                    if (one.isWhole(TANK) && other.isWhole(TANK)) {
                        boolean forth = one.parts[LEVEL] >= other.parts[LEVEL];
                        pour(hose.parts[FLOW], forth ? one : other, forth ? other : one);
                    }
                }
            }
        }

        private void pour(int flow, Unit higher, Unit lower) {
            int half = (higher.parts[LEVEL] - lower.parts[LEVEL]) / 2;
            int space = lower.parts[ROOM] - lower.parts[LEVEL];
            int amount = Math.min(Math.min(flow, higher.parts[LEVEL]), Math.min(space, half));
            higher.parts[LEVEL] -= amount;
            lower.parts[LEVEL] += amount;
        }

        void warm(int light) {
            for (int i = 0; i < yard.size() && i < heats.length; i++) {
                heats[i] = heatAlone(yard.unitAt(i), light) + fromNeighbour(i, i - 1) + fromNeighbour(i, i + 1);
            }
            for (int i = 0; i < yard.size(); i++) {
                if (yard.unitAt(i).isWhole(PIPE)) {
                    leadHeat(yard.unitAt(i));
                }
            }
            for (int i = 0; i < yard.size() && i < heats.length; i++) {
                yard.unitAt(i).parts[HEAT] = limit(heats[i], -500, 1500);
            }
            breakUnits();
            switchThermos();
        }

        private int heatAlone(Unit u, int light) {
            int heat = u.parts[HEAT];
            int mass = u.mass();
            int work = u.isOn(LOAD) ? u.need() : 0;
            if (u.is(HEATER)) {
                work = 4 * work;
            }
            int gain = mass > 0 ? work * 10 / mass : 0;
            int outside = 4 * light - 250;
            int loss = 24 + mass > 0 ? (heat - outside) / (24 + mass) : 0;
            return heat + gain - loss;
        }

        private int fromNeighbour(int i, int neighbour) {
            if (!yard.has(neighbour)) {
                return 0;
            }
            return (yard.unitAt(neighbour).parts[HEAT] - yard.unitAt(i).parts[HEAT]) / 16;
        }

        private void leadHeat(Unit pipe) {
            int one = pipe.parts[ONE];
            int other = pipe.parts[OTHER];
            if (one != other) {
                int difference = yard.unitAt(other).parts[HEAT] - yard.unitAt(one).parts[HEAT];
                addHeat(one, difference * pipe.parts[FLOW] / 64);
                addHeat(other, (0 - difference) * pipe.parts[FLOW] / 64);
            }
        }

        private void addHeat(int i, int x) {
            if (i >= 0 && i < heats.length) {
                heats[i] += x;
            }
        }

        private void breakUnits() {
            for (int i = 0; i < yard.size(); i++) {
                Unit u = yard.unitAt(i);
                if (u.parts[BROKEN] == 0 && !within(u.parts[HEAT], -200, 900)) {
                    u.parts[BROKEN] = 1;
                    u.parts[ON] = 0;
                    failures++;
                }
            }
        }

        private void switchThermos() {
            for (int i = 0; i < yard.size(); i++) {
                Unit u = yard.unitAt(i);
                if (u.isWhole(THERMO)) {
                    int heat = yard.unitAt(u.parts[OF]).parts[HEAT];
                    if (heat < u.parts[TARGET] - u.parts[BAND]) {
                        u.parts[ON] = 1;
                    } else if (heat > u.parts[TARGET] + u.parts[BAND]) {
                        u.parts[ON] = 0;
                    }
                }
            }
        }
    }

    /** The bytes that went down: the latest of them, and how many there were. */
    private static final class Downlink {
        private static final int KEPT_BYTES = 500;

        private final int[] bytes = new int[KEPT_BYTES];
        private int count;

        void begin() {
            count = 0;
        }

        int byteCount() {
            return count;
        }

        void send(int b) {
            bytes[Math.floorMod(count, KEPT_BYTES)] = b;
            count++;
        }

        int latest(int i) {
            if (i < 0 || i >= count || i >= KEPT_BYTES) {
                return NONE;
            }
            return bytes[Math.floorMod(count - 1 - i, KEPT_BYTES)];
        }
    }

    /** The flight: what a tick does, in its order, and the acts of plan and ground. */
    private static final class Flight {
        private static final int FRAME_BYTES = 12;

        private final Yard yard;
        private final Steering steering;
        private final Plant plant;
        private final Downlink downlink;
        private final int[] frame = new int[FRAME_BYTES];
        private Plan plan;
        private int ticks;
        private int mode;
        private int light;
        private int framesKept;
        private int framesLost;
        private int actsDone;
        private int actsRefused;

        Flight(Yard yard) {
            this.yard = yard;
            steering = new Steering(yard);
            plant = new Plant(yard);
            downlink = new Downlink();
            plan = new Plan();
        }

        void begin() {
            steering.begin();
            plant.begin();
            downlink.begin();
            plan.clear();
            ticks = 0;
            mode = 0;
            light = 0;
            framesKept = 0;
            framesLost = 0;
            actsDone = 0;
            actsRefused = 0;
        }

        Plan exchangePlan(Plan fresh) {
            Plan old = plan;
            plan = fresh;
            return old;
        }

        Plan planned() {
            return plan;
        }

        Downlink downlink() {
            return downlink;
        }

        Steering steering() {
            return steering;
        }

        int ticksSoFar() {
            return ticks;
        }

        /** What craft() tells of the flight itself, by its numbers there. */
        int gauge(int what) {
            switch (what) {
                case 1:
                    return ticks;
                case 2:
                    return mode;
                case 16:
                    return plant.brownoutCount();
                case 17:
                    return plant.failureCount();
                case 18:
                    return framesKept;
                case 19:
                    return framesLost;
                case 21:
                    return actsDone;
                case 22:
                    return actsRefused;
                case 25:
                    return light;
                case 26:
                    return plant.supplyNow();
                case 27:
                    return plant.demandNow();
                default:
                    return 0;
            }
        }

        void tick() {
            int t = ticks;
            int troubles = plant.brownoutCount() + plant.failureCount();
            light = lightAt(Math.floorMod(t, 600));
            doItems(t);
            takeReadings(t);
            if (mode == 3) {
                saveLine();
            } else if (mode != 0 && isMultiple(t, 4)) {
                steering.steer(t, mode);
            }
            steering.turn(t);
            plant.power(t, light, steering.angle(1));
            plant.levelTanks();
            plant.warm(light);
            if (Math.floorMod(t, 25) == 24) {
                keepFrame(t);
            }
            sendAll(t);
            if (mode != 0 && plant.brownoutCount() + plant.failureCount() > troubles) {
                mode = 3;
            }
            ticks++;
        }

        private static int lightAt(int q) {
            if (q <= 339) {
                return 100;
            }
            if (q <= 359) {
                return 100 - 5 * (q - 339);
            }
            return q <= 579 ? 0 : 5 * (q - 579);
        }

        private void doItems(int t) {
            for (int i = 0; i < plan.size(); i++) {
                Item item = plan.itemAt(i);
                if (!item.stopped && isDue(item, t)) {
                    item.dueCount++;
                    if (!perform(item.act, item.a, item.b)) {
                        item.refusedCount++;
                    }
                }
            }
        }

        private boolean isDue(Item item, int t) {
            return item.isWatch() ? item.hasCome(valueOf(item)) : item.isDueAt(t);
        }

        private int valueOf(Item item) {
            switch (item.term) {
                case Item.TERM_LEVEL:
                    return yard.unitAt(item.subject).parts[LEVEL];
                case Item.TERM_HEAT:
                    return yard.unitAt(item.subject).parts[HEAT];
                case Item.TERM_SPEED:
                    return yard.unitAt(item.subject).parts[SPEED];
                case Item.TERM_READING:
                    return yard.unitAt(item.subject).parts[READING];
                case Item.TERM_ANGLE:
                    return steering.angle(item.subject);
                case Item.TERM_RATE:
                    return steering.rate(item.subject);
                default:
                    return light;
            }
        }

        /** Does an act, whose numbers were looked at before: whether it is done, not refused. */
        boolean perform(int act, int a, int b) {
            boolean good = true;
            switch (act) {
                case ACT_ON: good = switchOn(yard.unitAt(a)); break;
                case ACT_OFF: good = switchOff(yard.unitAt(a)); break;
                case ACT_MODE: mode = a; break;
                case ACT_AIM: steering.setAim(a, b); break;
                case ACT_RESTART: good = yard.restart(a); break;
                case ACT_WIPE: yard.unitAt(a).parts[LEVEL] = 0; break;
                case ACT_STOP: plan.stop(a); break;
                default: good = false; break;
            }
            if (good) {
                actsDone++;
            } else {
                actsRefused++;
            }
            return good;
        }

        private static boolean switchOn(Unit u) {
            if (!u.isWhole(LOAD)) {
                return false;
            }
            if (u.parts[STUBBORN] == 1) {
                u.parts[STUBBORN] = 0;
                return false;
            }
            u.parts[ON] = 1;
            return true;
        }

        private static boolean switchOff(Unit u) {
            if (!u.is(LOAD)) {
                return false;
            }
            u.parts[ON] = 0;
            return true;
        }

        private void takeReadings(int t) {
            for (int i = 0; i < yard.size(); i++) {
                Unit u = yard.unitAt(i);
                if (u.isOn(SENSOR) && isMultiple(t, u.parts[EVERY])) {
                    takeReading(u, t);
                }
            }
        }

        private void takeReading(Unit u, int t) {
            if (u.is(GYRO)) {
                u.parts[READING] = steering.rate(u.parts[AXIS]) + u.parts[DRIFT];
            } else if (u.is(SUNEYE)) {
                int e = off(steering.angle(0), 0);
                boolean seen = light > 0 && Math.abs(e) < u.parts[WIDE];
                u.parts[READING] = seen ? e + u.parts[NOISE] : BLIND;
            } else if (u.is(PROBE)) {
                u.parts[READING] = yard.unitAt(u.parts[OF]).parts[HEAT] + u.parts[SHIFT];
            } else if (u.is(CAMERA)) {
                u.parts[READING] = Math.floorMod(t + u.parts[LENS] * light, 256);
                keepPicture(u, yard.unitAt(u.parts[OF]));
            }
        }

        private static void keepPicture(Unit camera, Unit recorder) {
            int lens = camera.parts[LENS];
            if (recorder.isWhole(RECORDER) && recorder.hasRoomFor(lens)) {
                for (int k = 0; k < lens; k++) {
                    recorder.keepByte(Math.floorMod(camera.parts[READING] + k, 256));
                }
                camera.parts[SHOTS]++;
            }
        }

        private void saveLine() {
            for (int i = 0; i < yard.size(); i++) {
                Unit u = yard.unitAt(i);
                if (u.isOn(LOAD) && u.parts[LINE] == 2 && !u.is(THERMO)) {
                    u.parts[ON] = 0;
                }
            }
        }

        private void keepFrame(int t) {
            for (int i = 0; i < yard.size(); i++) {
                Unit u = yard.unitAt(i);
                if (u.isWhole(RECORDER) && u.hasRoomFor(FRAME_BYTES)) {
                    fillFrame(t);
                    for (int k = 0; k < frame.length; k++) {
                        u.keepByte(frame[k]);
                    }
                    framesKept++;
                    return;
                }
            }
            framesLost++;
        }

        private void fillFrame(int t) {
            frame[0] = 165;
            frame[1] = Math.floorMod(t / 256, 256);
            frame[2] = Math.floorMod(t, 256);
            frame[3] = mode;
            frame[4] = charge();
            frame[5] = light;
            frame[6] = steering.angle(0) / 16;
            frame[7] = steering.angle(1) / 16;
            frame[8] = steering.angle(2) / 16;
            frame[9] = countWith(UNIT, BROKEN);
            frame[10] = countWith(LOAD, ON);
            frame[11] = checkOf(FRAME_BYTES - 1);
        }

        private int charge() {
            int levels = 0;
            int rooms = 0;
            for (int i = 0; i < yard.size(); i++) {
                Unit u = yard.unitAt(i);
                if (u.is(BATTERY)) {
                    levels += u.parts[LEVEL];
                    rooms += u.parts[ROOM];
                }
            }
            return rooms > 0 ? 100 * levels / rooms : 0;
        }

        private int countWith(int layer, int what) {
            int found = 0;
            for (int i = 0; i < yard.size(); i++) {
                if (yard.unitAt(i).is(layer) && yard.unitAt(i).value(what) == 1) {
                    found++;
                }
            }
            return found;
        }

        private int checkOf(int size) {
            int check = 0;
            for (int k = 0; k < size && k < frame.length; k++) {
                check ^= frame[k];
                for (int bit = 0; bit < 8; bit++) {
                    check = check >= 128 ? check * 2 % 256 ^ 7 : check * 2;
                }
            }
            return check;
        }

        private void sendAll(int t) {
            boolean inView = within(Math.floorMod(t, 600), 100, 219);
            for (int i = 0; i < yard.size(); i++) {
                Unit u = yard.unitAt(i);
                if (u.isOn(RADIO)) {
                    if (u.is(BEACON) && isMultiple(t, u.parts[EVERY])) {
                        downlink.send(48 + mode);
                        u.parts[SENT]++;
                    }
                    if (inView) {
                        u.parts[SENT] += sendKept(u.parts[RATE]);
                    }
                }
            }
        }

        /** Sends down what was kept first, at most so many bytes: how many there were. */
        private int sendKept(int most) {
            int sent = 0;
            for (int i = 0; i < yard.size(); i++) {
                Unit u = yard.unitAt(i);
                if (u.isWhole(RECORDER)) {
                    for (; sent < most && u.parts[LEVEL] > 0; sent++) {
                        downlink.send(u.keptByte(0));
                        u.dropFirst();
                    }
                }
            }
            return sent;
        }
    }
}
