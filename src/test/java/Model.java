import java.util.ArrayDeque;
import java.util.ArrayList;
import java.util.HashMap;
import java.util.LinkedHashMap;
import java.util.List;
import java.util.Map;
import java.util.NoSuchElementException;

/**
 * The document once more, written apart from the program and in another way: layers are Java classes, whose fields'
 * initialisers are the PARTS and whose constructors are the FITTING, and QUESTIONS are methods that they override.
 */
@SuppressWarnings("this-escape")
final class Model {
    static final String[] PART_NAMES = (". number serial mass base width cold seal spare room level wear grade top pairs"
        + " cap cells valve pages first keep line on watts share glow band of target noise channels every reading drift"
        + " axes axis fine wide shift lens shots kick push most speed turns pole gas beat tone rate sent wire turn face"
        + " step at rod twist one other flow").split(" ");

    static final class Fault extends RuntimeException {
        private static final long serialVersionUID = 1L;
        final int code;
        final int place;

        Fault(int code, int place) {
            this.code = code;
            this.place = place;
        }
    }

    static final class Entry {
        String kind;
        String name;
        final List<Integer> numbers = new ArrayList<>();
    }

    // ---- the craft while units are made
    private int draws;
    private int address;
    private int reserve;
    private int restarts;
    private final List<int[]> notes = new ArrayList<>();
    private Entry making;
    private int makingNumber;
    private List<Unit> units = new ArrayList<>();
    private List<Entry> book = new ArrayList<>();

    int draw() {
        return ++draws;
    }

    static int mod(int x, int y) {
        int r = x % y;
        return r < 0 ? r + y : r;
    }

    class Unit {
        final Entry entry = making;
        final int a1 = given(0);
        final int a2 = given(1);
        final int a3 = given(2);
        int heat = 200;
        boolean broken;
        boolean stubborn;
        final ArrayDeque<Integer> kept = new ArrayDeque<>();

        int number = makingNumber;
        int serial = draw();
        int mass = askMass();
        int base;
        int width;
        int cold;

        Unit() {
            base = address;
            width = Math.max(askSpan(), 1);
            address += width;
            cold = askTest();
            note(0, cold);
        }

        final int given(int k) {
            return k < making.numbers.size() ? making.numbers.get(k) : 0;
        }

        final void note(int code, int value) {
            notes.add(new int[] {makingNumber, code, value});
        }

        int code() {
            return 0;
        }

        int askMass() {
            return 5;
        }

        int askSpan() {
            return 1;
        }

        int askNeed() {
            return 0;
        }

        int askTest() {
            return serial + mass;
        }

        Map<String, Integer> shown() {
            Map<String, Integer> m = new HashMap<>();
            m.put("number", number);
            m.put("serial", serial);
            m.put("mass", mass);
            m.put("base", base);
            m.put("width", width);
            m.put("cold", cold);
            return m;
        }
    }

    class Store extends Unit {
        int seal = draw() + mass;
        int spare = askSpan();
        int room;
        int level;

        Store() {
            room = a1;
            level = room / 2;
            note(1, spare);
        }

        @Override int askMass() {
            return 8 + room / 10;
        }

        @Override int askSpan() {
            return 1 + room / 50;
        }

        @Override int askTest() {
            return super.askTest() + seal - room;
        }

        @Override Map<String, Integer> shown() {
            Map<String, Integer> m = super.shown();
            m.put("seal", seal);
            m.put("spare", spare);
            m.put("room", room);
            m.put("level", level);
            return m;
        }
    }

    class Battery extends Store {
        int wear = draw() % 5;
        final int grade = 3;
        int top;

        Battery() {
            level = room * 3 / 4;
            top = askNeed();
            note(2, top);
        }

        @Override int code() {
            return 2;
        }

        @Override int askNeed() {
            return 2 + wear + grade;
        }

        @Override int askTest() {
            return super.askTest() + wear * grade;
        }

        @Override Map<String, Integer> shown() {
            Map<String, Integer> m = super.shown();
            m.put("wear", wear);
            m.put("grade", grade);
            m.put("top", top);
            return m;
        }
    }

    final class Cellpack extends Battery {
        int pairs = 2;
        int cap = top * 2 + wear;
        int cells;

        Cellpack() {
            cells = a2;
            level = level * cells / 8;
            top = askNeed();
            note(3, level + cap);
        }

        @Override int code() {
            return 3;
        }

        @Override int askSpan() {
            return 2 + cells + grade;
        }

        @Override int askNeed() {
            return cells * 2 + pairs;
        }

        @Override Map<String, Integer> shown() {
            Map<String, Integer> m = super.shown();
            m.put("pairs", pairs);
            m.put("cap", cap);
            m.put("cells", cells);
            return m;
        }
    }

    final class Tank extends Store {
        int valve = base % 4;

        Tank() {
            level = room;
            note(4, valve);
        }

        @Override int code() {
            return 4;
        }

        @Override int askTest() {
            return super.askTest() * 2 - valve;
        }

        @Override Map<String, Integer> shown() {
            Map<String, Integer> m = super.shown();
            m.put("valve", valve);
            return m;
        }
    }

    final class Recorder extends Store {
        int pages = room / 10;
        int first = level;
        int keep;

        Recorder() {
            level = 0;
            keep = askSpan();
            note(5, keep + first);
        }

        @Override int code() {
            return 5;
        }

        @Override int askSpan() {
            return super.askSpan() + pages;
        }

        @Override Map<String, Integer> shown() {
            Map<String, Integer> m = super.shown();
            m.put("pages", pages);
            m.put("first", first);
            m.put("keep", keep);
            return m;
        }
    }

    class Load extends Unit {
        int line = (serial + draw()) % 3;
        int on = 0;
        int watts;
        int share;

        Load() {
            watts = a1;
            share = askNeed();
            reserve += share;
            note(6, share);
        }

        @Override int askMass() {
            return super.askMass() + watts / 5;
        }

        @Override int askNeed() {
            return watts;
        }

        @Override Map<String, Integer> shown() {
            Map<String, Integer> m = super.shown();
            m.put("line", line);
            m.put("on", on);
            m.put("watts", watts);
            m.put("share", share);
            return m;
        }
    }

    class Heater extends Load {
        int glow = askNeed() + 1;

        Heater() {
            note(7, glow);
        }

        @Override int code() {
            return 7;
        }

        @Override int askNeed() {
            return super.askNeed() + glow / 4;
        }

        @Override Map<String, Integer> shown() {
            Map<String, Integer> m = super.shown();
            m.put("glow", glow);
            return m;
        }
    }

    final class Thermo extends Heater {
        int band = 5 + line * 5 + glow / 8;
        int of;
        int target;

        Thermo() {
            of = a2;
            target = a3;
            note(8, askTest());
        }

        @Override int code() {
            return 8;
        }

        @Override int askTest() {
            return super.askTest() + band - target;
        }

        @Override Map<String, Integer> shown() {
            Map<String, Integer> m = super.shown();
            m.put("band", band);
            m.put("of", of);
            m.put("target", target);
            return m;
        }
    }

    class Sensor extends Load {
        int noise = draw() % 7;
        int channels = askChannels();
        int every;
        int reading;

        Sensor() {
            every = a2;
            reading = 0;
            note(9, channels);
        }

        int askChannels() {
            return 1;
        }

        @Override int askSpan() {
            return super.askSpan() + channels;
        }

        @Override int askNeed() {
            return super.askNeed() + channels;
        }

        @Override Map<String, Integer> shown() {
            Map<String, Integer> m = super.shown();
            m.put("noise", noise);
            m.put("channels", channels);
            m.put("every", every);
            m.put("reading", reading);
            return m;
        }
    }

    class Gyro extends Sensor {
        int drift = noise - 3;
        int axes = 1;
        int axis;

        Gyro() {
            axis = a3;
            channels = askChannels();
            note(10, drift);
        }

        @Override int code() {
            return 10;
        }

        @Override int askChannels() {
            return axes;
        }

        @Override Map<String, Integer> shown() {
            Map<String, Integer> m = super.shown();
            m.put("drift", drift);
            m.put("axes", axes);
            m.put("axis", axis);
            return m;
        }
    }

    final class Finegyro extends Gyro {
        int fine;

        {
            drift = drift / 2;
            fine = draw() % 4 + 1;
        }

        Finegyro() {
            axes = 3;
            channels = askChannels();
            note(11, channels);
        }

        @Override int code() {
            return 11;
        }

        @Override int askChannels() {
            return super.askChannels() + fine;
        }

        @Override int askTest() {
            return super.askTest() * 3 + fine;
        }

        @Override Map<String, Integer> shown() {
            Map<String, Integer> m = super.shown();
            m.put("fine", fine);
            return m;
        }
    }

    final class Suneye extends Sensor {
        int wide = 600 + noise * 40;

        Suneye() {
            note(12, wide);
        }

        @Override int code() {
            return 12;
        }

        @Override int askChannels() {
            return 2;
        }

        @Override Map<String, Integer> shown() {
            Map<String, Integer> m = super.shown();
            m.put("wide", wide);
            return m;
        }
    }

    final class Probe extends Sensor {
        int shift = noise - 2;
        int of;

        Probe() {
            of = a3;
            note(13, shift);
        }

        @Override int code() {
            return 13;
        }

        @Override int askChannels() {
            return super.askChannels() + shift;
        }

        @Override Map<String, Integer> shown() {
            Map<String, Integer> m = super.shown();
            m.put("shift", shift);
            m.put("of", of);
            return m;
        }
    }

    final class Camera extends Sensor {
        int lens = channels + draw() % 3;
        int of;
        int shots;

        Camera() {
            of = a3;
            shots = 0;
            note(14, lens);
        }

        @Override int code() {
            return 14;
        }

        @Override int askSpan() {
            return super.askSpan() + lens;
        }

        @Override int askChannels() {
            return 3 + lens;
        }

        @Override Map<String, Integer> shown() {
            Map<String, Integer> m = super.shown();
            m.put("lens", lens);
            m.put("of", of);
            m.put("shots", shots);
            return m;
        }
    }

    class Actuator extends Load {
        int kick = askPush();
        int axis;
        int push;

        Actuator() {
            axis = a2;
            push = askPush();
            note(15, push - kick);
        }

        int askPush() {
            return 4 + axis;
        }

        @Override int askTest() {
            return super.askTest() + push;
        }

        @Override Map<String, Integer> shown() {
            Map<String, Integer> m = super.shown();
            m.put("kick", kick);
            m.put("axis", axis);
            m.put("push", push);
            return m;
        }
    }

    final class Wheel extends Actuator {
        int most = 200 + serial;
        int speed = 0;

        Wheel() {
            note(16, most - push);
        }

        @Override int code() {
            return 16;
        }

        @Override int askPush() {
            return 2 + most / 100;
        }

        @Override Map<String, Integer> shown() {
            Map<String, Integer> m = super.shown();
            m.put("most", most);
            m.put("speed", speed);
            return m;
        }
    }

    final class Coil extends Actuator {
        int turns = kick * 2;
        final int pole = 7;

        Coil() {
            push = askPush();
            note(17, push);
        }

        @Override int code() {
            return 17;
        }

        @Override int askPush() {
            return pole + turns - super.askPush();
        }

        @Override Map<String, Integer> shown() {
            Map<String, Integer> m = super.shown();
            m.put("turns", turns);
            m.put("pole", pole);
            return m;
        }
    }

    class Jet extends Actuator {
        int gas = draw() % 3 + 1;
        int of;
        int shots;

        Jet() {
            of = a3;
            shots = 0;
            note(18, askPush());
        }

        @Override int code() {
            return 18;
        }

        @Override int askPush() {
            return super.askPush() * (1 + gas);
        }

        @Override Map<String, Integer> shown() {
            Map<String, Integer> m = super.shown();
            m.put("gas", gas);
            m.put("of", of);
            m.put("shots", shots);
            return m;
        }
    }

    final class Pulser extends Jet {
        int beat = gas + 1;

        Pulser() {
            push = askPush();
            note(19, push);
        }

        @Override int code() {
            return 19;
        }

        @Override int askPush() {
            return super.askPush() / 2 + beat;
        }

        @Override int askSpan() {
            return 3;
        }

        @Override Map<String, Integer> shown() {
            Map<String, Integer> m = super.shown();
            m.put("beat", beat);
            return m;
        }
    }

    class Radio extends Load {
        int tone = base * 2 + 1;
        int rate;
        int sent;

        Radio() {
            rate = a2;
            sent = 0;
            note(20, tone);
        }

        @Override int code() {
            return 20;
        }

        @Override int askSpan() {
            return 2 + tone % 3;
        }

        @Override Map<String, Integer> shown() {
            Map<String, Integer> m = super.shown();
            m.put("tone", tone);
            m.put("rate", rate);
            m.put("sent", sent);
            return m;
        }
    }

    final class Beacon extends Radio {
        int every = 10 + tone % 7;

        Beacon() {
            rate = rate / 2 + 1;
            note(21, rate);
        }

        @Override int code() {
            return 21;
        }

        @Override int askTest() {
            return super.askTest() - every;
        }

        @Override Map<String, Integer> shown() {
            Map<String, Integer> m = super.shown();
            m.put("every", every);
            return m;
        }
    }

    class Source extends Unit {
        int wire = draw() % 3;
        int most;

        Source() {
            most = a1;
            note(22, askMass());
        }

        @Override int askMass() {
            return super.askMass() + most / 20;
        }

        @Override Map<String, Integer> shown() {
            Map<String, Integer> m = super.shown();
            m.put("wire", wire);
            m.put("most", most);
            return m;
        }
    }

    class Panel extends Source {
        int turn = wire * 10;
        int face;

        Panel() {
            face = a2;
            note(23, turn + face);
        }

        @Override int code() {
            return 23;
        }

        @Override int askSpan() {
            return 1 + face;
        }

        @Override Map<String, Integer> shown() {
            Map<String, Integer> m = super.shown();
            m.put("turn", turn);
            m.put("face", face);
            return m;
        }
    }

    final class Tracker extends Panel {
        final int step = 5;
        int at = mod(face * 900 + turn, 3600);

        Tracker() {
            note(24, at);
        }

        @Override int code() {
            return 24;
        }

        @Override int askSpan() {
            return super.askSpan() + step;
        }

        @Override int askNeed() {
            return 3;
        }

        @Override Map<String, Integer> shown() {
            Map<String, Integer> m = super.shown();
            m.put("step", step);
            m.put("at", at);
            return m;
        }
    }

    final class Generator extends Source {
        int rod = mass * 2 + wire;
        int of;

        Generator() {
            of = a2;
            note(25, rod);
        }

        @Override int code() {
            return 25;
        }

        @Override int askTest() {
            return super.askTest() + rod;
        }

        @Override Map<String, Integer> shown() {
            Map<String, Integer> m = super.shown();
            m.put("rod", rod);
            m.put("of", of);
            return m;
        }
    }

    class Link extends Unit {
        int twist = askSpan() + draw() % 2;
        int one;
        int other;

        Link() {
            one = a1;
            other = a2;
            note(26, twist);
        }

        @Override int askSpan() {
            return 1 + one % 2;
        }

        @Override Map<String, Integer> shown() {
            Map<String, Integer> m = super.shown();
            m.put("twist", twist);
            m.put("one", one);
            m.put("other", other);
            return m;
        }
    }

    final class Pipe extends Link {
        int flow = twist + 2;

        Pipe() {
            note(27, flow);
        }

        @Override int code() {
            return 27;
        }

        @Override int askMass() {
            return super.askMass() + flow;
        }

        @Override Map<String, Integer> shown() {
            Map<String, Integer> m = super.shown();
            m.put("flow", flow);
            return m;
        }
    }

    final class Hose extends Link {
        int flow = twist;

        Hose() {
            flow += a3;
            note(28, flow + one);
        }

        @Override int code() {
            return 28;
        }

        @Override int askTest() {
            return super.askTest() - flow;
        }

        @Override Map<String, Integer> shown() {
            Map<String, Integer> m = super.shown();
            m.put("flow", flow);
            return m;
        }
    }

    private Unit make(Entry entry, int number) {
        making = entry;
        makingNumber = number;
        return switch (entry.kind) {
            case "battery" -> new Battery();
            case "cellpack" -> new Cellpack();
            case "tank" -> new Tank();
            case "recorder" -> new Recorder();
            case "heater" -> new Heater();
            case "thermo" -> new Thermo();
            case "gyro" -> new Gyro();
            case "finegyro" -> new Finegyro();
            case "suneye" -> new Suneye();
            case "probe" -> new Probe();
            case "camera" -> new Camera();
            case "wheel" -> new Wheel();
            case "coil" -> new Coil();
            case "jet" -> new Jet();
            case "pulser" -> new Pulser();
            case "radio" -> new Radio();
            case "beacon" -> new Beacon();
            case "panel" -> new Panel();
            case "tracker" -> new Tracker();
            case "reactor" -> new Generator();
            case "pipe" -> new Pipe();
            case "hose" -> new Hose();
            default -> throw new IllegalStateException(entry.kind);
        };
    }

    // ---- texts: the tokens are found with a position that moves on as they are wanted
    private String tape = "";
    private String source = "";
    private int pos;
    private int tokenAt;
    private int faultCode = 0;
    private int faultPlace = -1;

    private static final Map<String, String> KINDS = new LinkedHashMap<>();

    static {
        String rows = "battery 1:2000,cellpack 1:2000 1:8,tank 1:2000,recorder 20:2000,heater 1:50,"
            + "thermo 1:50 unit -300:900,gyro 1:50 1:50 0:2,finegyro 1:50 1:50 0:2,suneye 1:50 1:50,"
            + "probe 1:50 1:50 unit,camera 1:50 1:50 recorder,wheel 1:50 0:2,coil 1:50 0:2,jet 1:50 0:2 tank,"
            + "pulser 1:50 0:2 tank,radio 1:50 1:40,beacon 1:50 1:40,panel 1:200 0:3,tracker 1:200 0:3,"
            + "reactor 1:200 tank,pipe unit unit,hose tank tank 1:9";
        for (String row : rows.split(",")) {
            int gap = row.indexOf(' ');
            KINDS.put(row.substring(0, gap), row.substring(gap + 1));
        }
    }

    /** The next token as it stands in the text; "" at the end. */
    private String token() {
        while (pos < source.length() && (source.charAt(pos) == ' ' || source.charAt(pos) == '\n')) {
            pos++;
        }
        tokenAt = pos;
        if (pos == source.length()) {
            return "";
        }
        String rest = source.substring(pos);
        int size = rest.replaceFirst("(?s)^([a-z][a-z0-9]*|-?[0-9]+|[;<>]).*$", "$1").length();
        if (!rest.matches("(?s)^([a-z]|-?[0-9]|[;<>]).*$")) {
            throw new Fault(1, rest.charAt(0) == '-' ? pos + 1 : pos);
        }
        String token = rest.substring(0, size);
        int most = Character.isLetter(token.charAt(0)) ? 8 : token.charAt(0) == '-' ? 6 : 5;
        if (token.length() > most) {
            throw new Fault(1, pos + most);
        }
        pos += size;
        return token;
    }

    private String word() {
        String token = token();
        if (token.isEmpty() || !Character.isLetter(token.charAt(0))) {
            throw new Fault(2, tokenAt);
        }
        return token;
    }

    private int number() {
        String token = token();
        if (token.isEmpty() || !Character.isDigit(token.charAt(token.length() - 1)) || Character.isLetter(token.charAt(0))) {
            throw new Fault(2, tokenAt);
        }
        return Integer.parseInt(token);
    }

    private int number(int from, int to) {
        int x = number();
        if (x < from || x > to) {
            throw new Fault(5, tokenAt);
        }
        return x;
    }

    private void semicolon() {
        if (!token().equals(";")) {
            throw new Fault(2, tokenAt);
        }
    }

    private List<Entry> readBook() {
        List<Entry> list = new ArrayList<>();
        for (String token = token(); !token.isEmpty(); token = token()) {
            if (!KINDS.containsKey(token)) {
                throw new Fault(2, tokenAt);
            }
            if (list.size() == 20) {
                throw new Fault(4, tokenAt);
            }
            Entry entry = new Entry();
            entry.kind = token;
            entry.name = word();
            for (Entry ahead : list) {
                if (ahead.name.equals(entry.name)) {
                    throw new Fault(3, tokenAt);
                }
            }
            for (String form : KINDS.get(token).split(" ")) {
                int colon = form.indexOf(':');
                int x = colon < 0 ? number(0, list.size() - 1)
                    : number(Integer.parseInt(form.substring(0, colon)), Integer.parseInt(form.substring(colon + 1)));
                if (colon < 0 && !form.equals("unit") && !list.get(x).kind.equals(form)) {
                    throw new Fault(5, tokenAt);
                }
                entry.numbers.add(x);
            }
            semicolon();
            list.add(entry);
        }
        return list;
    }

    static final class Step {
        String when;
        String term = "";
        int subject;
        int bound;
        String act;
        int a;
        int b;
        int due;
        int refused;
        boolean stopped;
        boolean was;
    }

    private int unit(Class<?> layer) {
        String name = word();
        for (Unit u : units) {
            if (u.entry.name.equals(name) && layer.isInstance(u)) {
                return u.number;
            }
        }
        throw new Fault(3, tokenAt);
    }

    private List<Step> readPlan() {
        List<Step> list = new ArrayList<>();
        for (String token = token(); !token.isEmpty(); token = token()) {
            if (!List.of("at", "each", "when").contains(token)) {
                throw new Fault(2, tokenAt);
            }
            if (list.size() == 30) {
                throw new Fault(4, tokenAt);
            }
            Step step = new Step();
            step.when = token;
            if (token.equals("when")) {
                readTerm(step);
            } else {
                step.bound = number(token.equals("at") ? 0 : 1, 9999);
            }
            readAct(step);
            semicolon();
            list.add(step);
        }
        return list;
    }

    private void readTerm(Step step) {
        step.term = token();
        switch (step.term) {
            case "level" -> step.subject = unit(Store.class);
            case "heat" -> step.subject = unit(Unit.class);
            case "speed" -> step.subject = unit(Wheel.class);
            case "reading" -> step.subject = unit(Sensor.class);
            case "light" -> step.subject = 0;
            case "angle", "rate" -> step.subject = number(0, 2);
            default -> throw new Fault(2, tokenAt);
        }
        step.when = token();
        if (!step.when.equals("<") && !step.when.equals(">")) {
            throw new Fault(2, tokenAt);
        }
        step.bound = number();
    }

    private void readAct(Step step) {
        step.act = token();
        switch (step.act) {
            case "on", "off", "restart" -> step.a = unit(Unit.class);
            case "wipe" -> step.a = unit(Recorder.class);
            case "mode" -> step.a = number(0, 3);
            case "stop" -> step.a = number(0, 29);
            case "aim" -> {
                step.a = number(0, 2);
                step.b = number(0, 3599);
            }
            default -> throw new Fault(2, tokenAt);
        }
    }

    // ---- the flight
    private List<Step> steps = new ArrayList<>();
    private int ticks;
    private int mode;
    private int[] g = new int[3];
    private int[] r = new int[3];
    private int[] aim = new int[3];
    private int light;
    private int supply;
    private int demand;
    private int brownouts;
    private int failures;
    private int frames;
    private int lost;
    private int done;
    private int refused;
    private List<Integer> sentDown = new ArrayList<>();

    static int limit(int x, int a, int b) {
        return x < a ? a : x > b ? b : x;
    }

    static int off(int a, int b) {
        int d = (b - a) % 3600;
        while (d < -1800) {
            d += 3600;
        }
        while (d > 1799) {
            d -= 3600;
        }
        return d;
    }

    private <T> List<T> all(Class<T> layer) {
        List<T> list = new ArrayList<>();
        for (Unit u : units) {
            if (layer.isInstance(u)) {
                list.add(layer.cast(u));
            }
        }
        return list;
    }

    private <T extends Load> List<T> lit(Class<T> layer) {
        List<T> list = all(layer);
        list.removeIf(x -> x.on == 0);
        return list;
    }

    private <T extends Unit> List<T> sound(Class<T> layer) {
        List<T> list = all(layer);
        list.removeIf(x -> x.broken);
        return list;
    }

    private boolean act(String act, int a, int b) {
        boolean good = true;
        switch (act) {
            case "on" -> {
                good = units.get(a) instanceof Load x && !x.broken && !x.stubborn;
                if (good) {
                    ((Load) units.get(a)).on = 1;
                } else if (units.get(a) instanceof Load x && !x.broken) {
                    x.stubborn = false;
                }
            }
            case "off" -> {
                good = units.get(a) instanceof Load;
                if (good) {
                    ((Load) units.get(a)).on = 0;
                }
            }
            case "mode" -> mode = a;
            case "aim" -> aim[a] = b;
            case "restart" -> {
                good = restarts < 30;
                if (good) {
                    restarts++;
                    units.set(a, make(book.get(a), a));
                    judge(units.get(a));
                }
            }
            case "wipe" -> {
                units.get(a).kept.clear();
                ((Store) units.get(a)).level = 0;
            }
            case "stop" -> {
                if (a < steps.size()) {
                    steps.get(a).stopped = true;
                }
            }
            default -> throw new IllegalStateException(act);
        }
        if (good) {
            done++;
        } else {
            refused++;
        }
        return good;
    }

    private void judge(Unit u) {
        u.stubborn = (u.askTest() - u.cold) % 2 != 0;
    }

    private int termOf(Step s) {
        return switch (s.term) {
            case "level" -> ((Store) units.get(s.subject)).level;
            case "heat" -> units.get(s.subject).heat;
            case "speed" -> ((Wheel) units.get(s.subject)).speed;
            case "reading" -> ((Sensor) units.get(s.subject)).reading;
            case "light" -> light;
            case "angle" -> g[s.subject];
            default -> r[s.subject];
        };
    }

    private void tick() {
        int t = ticks++;
        int q = t % 600;
        light = q < 340 ? 100 : q < 360 ? 100 - 5 * (q - 339) : q < 580 ? 0 : 5 * (q - 579);
        boolean trouble = false;
        for (Step s : new ArrayList<>(steps)) {
            if (s.stopped) {
                continue;
            }
            boolean due;
            if (s.when.equals("at")) {
                due = t == s.bound;
            } else if (s.when.equals("each")) {
                due = t > 0 && t % s.bound == 0;
            } else {
                boolean now = s.when.equals("<") ? termOf(s) < s.bound : termOf(s) > s.bound;
                due = now && !s.was;
                s.was = now;
            }
            if (due) {
                s.due++;
                s.refused += act(s.act, s.a, s.b) ? 0 : 1;
            }
        }
        for (Sensor s : lit(Sensor.class)) {
            if (t % s.every == 0) {
                read(s, t);
            }
        }
        if (mode == 3) {
            lit(Load.class).stream().filter(x -> x.line == 2 && !(x instanceof Thermo)).forEach(x -> x.on = 0);
        } else if (mode > 0 && t % 4 == 0) {
            for (int x = 0; x < 3; x++) {
                steer(x, t);
            }
        }
        r[0] += t % 50 == 0 ? 1 : 0;
        for (int x = 0; x < 3; x++) {
            r[x] = limit(r[x], -400, 400);
            g[x] = mod(g[x] + r[x] / 4, 3600);
        }
        trouble |= power(t);
        for (Hose h : sound(Hose.class)) {
            hose(h);
        }
        trouble |= heat();
        if (t % 25 == 24) {
            frame(t);
        }
        for (Radio x : lit(Radio.class)) {
            send(x, t, q >= 100 && q <= 219);
        }
        if (trouble && mode != 0) {
            mode = 3;
        }
    }

    private void read(Sensor s, int t) {
        if (s instanceof Gyro x) {
            x.reading = r[x.axis] + x.drift;
        } else if (s instanceof Suneye x) {
            int e = off(g[0], 0);
            x.reading = light > 0 && Math.abs(e) < x.wide ? e + x.noise : 9999;
        } else if (s instanceof Probe x) {
            x.reading = units.get(x.of).heat + x.shift;
        } else if (s instanceof Camera x) {
            x.reading = mod(t + x.lens * light, 256);
            Recorder to = (Recorder) units.get(x.of);
            if (!to.broken && to.level + x.lens <= to.room) {
                for (int k = 0; k < x.lens; k++) {
                    to.kept.add((x.reading + k) % 256);
                }
                to.level += x.lens;
                x.shots++;
            }
        }
    }

    private void steer(int x, int t) {
        int e = mode == 1 ? off(g[x], aim[x]) : off(g[x], 0);
        if (mode == 2 && x == 0) {
            List<Suneye> eyes = lit(Suneye.class);
            e = eyes.isEmpty() || eyes.get(0).reading == 9999 ? 200 : eyes.get(0).reading;
        }
        int rate = lit(Gyro.class).stream().filter(y -> y.axis == x).findFirst().map(y -> y.reading).orElse(0);
        int w = limit(e / 16 - 2 * rate, -30, 30);
        for (Wheel y : lit(Wheel.class)) {
            if (y.axis == x) {
                int c = limit(y.speed + limit(w, -y.push, y.push), -y.most, y.most) - y.speed;
                y.speed += c;
                r[x] += c;
                w -= c;
            }
        }
        for (Coil y : lit(Coil.class)) {
            if (y.axis == x && t % 8 == 0) {
                int c = y.push > 0 ? limit(w, -1, 1) : 0;
                r[x] += c;
                w -= c;
            }
        }
        for (Wheel y : lit(Wheel.class)) {
            if (y.axis == x && 4 * Math.abs(y.speed) > y.most) {
                for (Jet j : lit(Jet.class)) {
                    Tank tank = (Tank) units.get(j.of);
                    boolean beats = !(j instanceof Pulser p) || t % p.beat == 0;
                    if (j.axis == x && !tank.broken && tank.level >= j.gas && beats) {
                        y.speed -= Integer.signum(y.speed) * limit(j.push, 0, Math.abs(y.speed));
                        tank.level -= j.gas;
                        j.shots++;
                        break;
                    }
                }
            }
        }
    }

    private boolean power(int t) {
        int[] f = {100, 99, 96, 91, 84, 75, 64, 51, 38, 25, 14, 6, 2, 0, 0, 0};
        supply = 0;
        demand = 0;
        for (Source s : sound(Source.class)) {
            if (s instanceof Generator x) {
                Tank tank = (Tank) units.get(x.of);
                if (!tank.broken && tank.level > 0) {
                    supply += x.most;
                    tank.level -= t % 8 == 0 ? 1 : 0;
                }
            } else if (s instanceof Panel x) {
                int to = 900 * x.face;
                if (x instanceof Tracker y) {
                    y.at = mod(y.at + limit(off(y.at, g[1]), -y.step, y.step), 3600);
                    to = y.at;
                }
                supply += x.most * light / 100 * f[Math.abs(off(g[1], to)) / 120] / 100;
            }
            demand += s.askNeed();
        }
        for (Load x : lit(Load.class)) {
            demand += x.askNeed();
        }
        int net = supply - demand;
        for (Battery b : sound(Battery.class)) {
            if (net > 0) {
                int more = Math.max(0, Math.min(net, Math.min(b.top, b.room - b.level)));
                b.level += more;
                net -= more;
            } else if (net < 0) {
                int less = Math.max(0, Math.min(-net, Math.min(b.top, b.level)));
                b.level -= less;
                net += less;
            }
        }
        if (net < 0) {
            brownouts++;
            Load worst = null;
            for (Load x : lit(Load.class)) {
                if (worst == null || x.line > worst.line || x.line == worst.line && x.number > worst.number) {
                    worst = x;
                }
            }
            if (worst != null) {
                worst.on = 0;
            }
        }
        return net < 0;
    }

    private void hose(Hose h) {
        Tank from = (Tank) units.get(h.one);
        Tank to = (Tank) units.get(h.other);
        if (from.broken || to.broken) {
            return;
        }
        if (to.level > from.level) {
            Tank swap = from;
            from = to;
            to = swap;
        }
        int x = Math.min(Math.min(h.flow, from.level), Math.min(to.room - to.level, (from.level - to.level) / 2));
        from.level -= x;
        to.level += x;
    }

    private boolean heat() {
        int n = units.size();
        int[] fresh = new int[n];
        for (int i = 0; i < n; i++) {
            Unit u = units.get(i);
            int p = u instanceof Load x && x.on == 1 ? x.askNeed() * (x instanceof Heater ? 4 : 1) : 0;
            int h = u.heat + p * 10 / u.askMass();
            h += i > 0 ? (units.get(i - 1).heat - u.heat) / 16 : 0;
            h += i < n - 1 ? (units.get(i + 1).heat - u.heat) / 16 : 0;
            for (Pipe pipe : sound(Pipe.class)) {
                if (pipe.one != pipe.other && (pipe.one == i || pipe.other == i)) {
                    int end = pipe.one == i ? pipe.other : pipe.one;
                    h += (units.get(end).heat - u.heat) * pipe.flow / 64;
                }
            }
            h -= (u.heat - (4 * light - 250)) / (24 + u.askMass());
            fresh[i] = limit(h, -500, 1500);
        }
        boolean trouble = false;
        for (Unit u : units) {
            u.heat = fresh[u.number];
            if (!u.broken && (u.heat > 900 || u.heat < -200)) {
                u.broken = true;
                failures++;
                trouble = true;
                if (u instanceof Load x) {
                    x.on = 0;
                }
            }
        }
        for (Thermo x : sound(Thermo.class)) {
            int h = units.get(x.of).heat;
            x.on = h < x.target - x.band ? 1 : h > x.target + x.band ? 0 : x.on;
        }
        return trouble;
    }

    private void frame(int t) {
        int level = 0;
        int room = 0;
        for (Battery b : all(Battery.class)) {
            level += b.level;
            room += b.room;
        }
        int broken = units.size() - sound(Unit.class).size();
        int[] bytes = {165, t / 256 % 256, t % 256, mode, room == 0 ? 0 : 100 * level / room, light, g[0] / 16,
            g[1] / 16, g[2] / 16, broken, lit(Load.class).size(), 0};
        int check = 0;
        for (int k = 0; k < 11; k++) {
            check ^= bytes[k];
            for (int i = 0; i < 8; i++) {
                boolean high = check >= 128;
                check = 2 * check % 256;
                check = high ? check ^ 7 : check;
            }
        }
        bytes[11] = check;
        for (Recorder x : sound(Recorder.class)) {
            if (x.room >= x.level + 12) {
                for (int b : bytes) {
                    x.kept.add(b);
                }
                x.level += 12;
                frames++;
                return;
            }
        }
        lost++;
    }

    private void send(Radio x, int t, boolean view) {
        if (x instanceof Beacon y && t % y.every == 0) {
            sentDown.add(48 + mode);
            x.sent++;
        }
        for (int k = 0; view && k < x.rate; k++) {
            Recorder from = sound(Recorder.class).stream().filter(y -> !y.kept.isEmpty()).findFirst().orElse(null);
            if (from == null) {
                return;
            }
            sentDown.add(from.kept.poll());
            from.level--;
            x.sent++;
        }
    }

    // ---- the face
    int feed(int... words) {
        if (tape.length() + 20 > 4000) {
            return -1;
        }
        StringBuilder more = new StringBuilder(tape);
        for (int w : words) {
            more.append((char) (w >>> 24)).append((char) (w >> 16 & 255)).append((char) (w >> 8 & 255));
            more.append((char) (w & 255));
        }
        tape = more.toString();
        return tape.length();
    }

    private void start(int n) {
        if (n < 0 || n > tape.length()) {
            throw new IllegalArgumentException();
        }
        source = tape.substring(0, n);
        tape = "";
        pos = 0;
        faultCode = 0;
        faultPlace = -1;
    }

    private void tell(Fault f) {
        faultCode = f.code;
        faultPlace = f.place;
    }

    int load(int n) {
        start(n);
        try {
            book = readBook();
        } catch (Fault f) {
            tell(f);
            return -1;
        }
        draws = 0;
        address = 0;
        reserve = 0;
        restarts = 0;
        notes.clear();
        units = new ArrayList<>();
        for (Entry e : book) {
            units.add(make(e, units.size()));
        }
        units.forEach(this::judge);
        steps = new ArrayList<>();
        ticks = 0;
        mode = 0;
        g = new int[3];
        r = new int[3];
        aim = new int[3];
        light = 0;
        supply = 0;
        demand = 0;
        brownouts = 0;
        failures = 0;
        frames = 0;
        lost = 0;
        done = 0;
        refused = 0;
        sentDown = new ArrayList<>();
        return units.size();
    }

    int plan(int n) {
        start(n);
        try {
            steps = readPlan();
        } catch (Fault f) {
            tell(f);
            return -1;
        }
        return steps.size();
    }

    int fault(int what) {
        return what == 0 ? faultCode : what == 1 ? faultPlace : -1;
    }

    int run(int n) {
        if (units.isEmpty()) {
            throw new IllegalStateException();
        }
        if (n < 0 || n > 1000) {
            throw new IllegalArgumentException();
        }
        for (int i = 0; i < n; i++) {
            tick();
        }
        return ticks;
    }

    int command(int act, int a, int b) {
        String[] acts = {"on", "off", "mode", "aim", "restart", "wipe", "stop"};
        int[] most = {units.size() - 1, units.size() - 1, 3, 2, units.size() - 1, units.size() - 1, 29};
        boolean good = !units.isEmpty() && act >= 0 && act <= 6 && a >= 0 && a <= most[act];
        good = good && (act != 3 || b >= 0 && b <= 3599) && (act != 5 || units.get(a) instanceof Recorder);
        if (!good) {
            throw new IllegalArgumentException();
        }
        return act(acts[act], a, b) ? 1 : 0;
    }

    private Unit unitAt(int i) {
        if (i < 0 || i >= units.size()) {
            throw new IndexOutOfBoundsException();
        }
        return units.get(i);
    }

    int part(int unit, int what) {
        Unit u = unitAt(unit);
        if (what == 0) {
            return u.code();
        }
        if (what >= 62 && what <= 64) {
            return what == 62 ? u.heat : (what == 63 ? u.broken : u.stubborn) ? 1 : 0;
        }
        Integer x = what < 0 || what > 61 ? null : u.shown().get(PART_NAMES[what]);
        if (x == null) {
            throw new NoSuchElementException();
        }
        return x;
    }

    int ask(int unit, int question) {
        Unit u = unitAt(unit);
        if (question == 4 && u instanceof Sensor x) {
            return x.askChannels();
        }
        if (question == 5 && u instanceof Actuator x) {
            return x.askPush();
        }
        return switch (question) {
            case 0 -> u.askMass();
            case 1 -> u.askSpan();
            case 2 -> u.askNeed();
            case 3 -> u.askTest();
            default -> throw new NoSuchElementException();
        };
    }

    int note(int i, int what) {
        if (i < 0 || i >= Math.min(100, notes.size()) || what < 0 || what > 2) {
            throw new NoSuchElementException();
        }
        return notes.get(i)[what];
    }

    int at(int x) {
        Unit best = null;
        for (Unit u : units) {
            boolean holds = (long) u.base <= x && x <= (long) u.base + u.width - 1;
            best = holds && (best == null || u.base > best.base) ? u : best;
        }
        return best == null ? -1 : best.number;
    }

    int name(int unit, int k) {
        String name = unitAt(unit).entry.name;
        if (k < 0) {
            throw new IndexOutOfBoundsException();
        }
        return k < name.length() ? name.charAt(k) : -1;
    }

    int kept(int unit, int i) {
        if (!(unitAt(unit) instanceof Recorder x)) {
            throw new IllegalArgumentException();
        }
        return i < 0 || i >= x.kept.size() ? -1 : new ArrayList<>(x.kept).get(i);
    }

    int down(int i) {
        return i < 0 || i >= Math.min(500, sentDown.size()) ? -1 : sentDown.get(sentDown.size() - 1 - i);
    }

    int item(int i, int what) {
        if (i < 0 || i >= steps.size() || what < 0 || what > 2) {
            return -1;
        }
        Step s = steps.get(i);
        return what == 0 ? s.due : what == 1 ? s.refused : s.stopped ? 1 : 0;
    }

    int craft(int what) {
        int[] row = {units.size(), ticks, mode, g[0], g[1], g[2], r[0], r[1], r[2], aim[0], aim[1], aim[2], draws,
            address, reserve, notes.size(), brownouts, failures, frames, lost, sentDown.size(), done, refused, restarts,
            steps.size(), light, supply, demand};
        return what < 0 || what >= row.length ? 0 : row[what];
    }
}
