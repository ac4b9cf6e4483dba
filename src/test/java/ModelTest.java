import java.util.ArrayList;
import java.util.List;
import java.util.Random;

/** Many runs of calls, drawn from written seeds, on the program and on the model: every answer is alike. */
public final class ModelTest {
    private static final String[] KINDS = {"battery", "cellpack", "tank", "recorder", "heater", "thermo", "gyro",
        "finegyro", "suneye", "probe", "camera", "wheel", "coil", "jet", "pulser", "radio", "beacon", "panel",
        "tracker", "reactor", "pipe", "hose"};
    private static final String LOADS = "heater thermo gyro finegyro suneye probe camera wheel coil jet pulser radio beacon";

    private interface Call {
        int answer();
    }

    private final Random random;
    private final SmallCraft craft = new SmallCraft();
    private final Model model = new Model();
    private final List<String> kinds = new ArrayList<>();
    private final List<String> names = new ArrayList<>();
    private final String seedText;
    private final boolean hot;
    private final boolean steered;

    private ModelTest(long seed) {
        random = new Random(seed);
        seedText = "seed " + seed + ": ";
        hot = random.nextInt(3) == 0;
        steered = !hot && random.nextInt(2) == 0;
    }

    private static int answerOf(Call call) {
        try {
            return call.answer();
        } catch (RuntimeException e) {
            return e.getClass().getName().hashCode() | 1 << 30;
        }
    }

    private int same(String what, Call program, Call reference) {
        int got = answerOf(program);
        Check.due(seedText + what, got, answerOf(reference));
        return got;
    }

    private int below(int n) {
        return random.nextInt(n);
    }

    private int from(int least, int greatest) {
        return least + below(greatest - least + 1);
    }

    private String oneOf(String... words) {
        return words[below(words.length)];
    }

    // ---- texts
    private int ahead(String kind) {
        List<Integer> fit = new ArrayList<>();
        for (int i = 0; i < kinds.size(); i++) {
            if (kind.equals("unit") || kinds.get(i).equals(kind)) {
                fit.add(i);
            }
        }
        return fit.isEmpty() ? -1 : fit.get(below(fit.size()));
    }

    private String numbersOf(String kind) {
        int watts = hot ? from(1, 50) : from(1, 12);
        switch (kind) {
            case "battery":
            case "tank":
                return "" + from(1, below(2) == 0 ? 2000 : 60);
            case "cellpack":
                return from(1, 2000) + " " + from(1, 8);
            case "recorder":
                return "" + from(20, below(2) == 0 ? 2000 : 80);
            case "heater":
                return "" + watts;
            case "thermo":
                return watts + " " + ahead("unit") + " " + from(-300, 900);
            case "gyro":
            case "finegyro":
                return watts + " " + from(1, 50) + " " + below(3);
            case "suneye":
                return watts + " " + from(1, 9);
            case "probe":
                return watts + " " + from(1, 50) + " " + ahead("unit");
            case "camera":
                return watts + " " + from(1, 50) + " " + ahead("recorder");
            case "wheel":
            case "coil":
                return watts + " " + below(3);
            case "jet":
            case "pulser":
                return watts + " " + below(3) + " " + ahead("tank");
            case "radio":
            case "beacon":
                return watts + " " + from(1, 40);
            case "panel":
            case "tracker":
                return from(1, 200) + " " + below(4);
            case "reactor":
                return from(1, 200) + " " + ahead("tank");
            case "pipe":
                return ahead("unit") + " " + ahead("unit");
            default:
                return ahead("tank") + " " + ahead("tank") + " " + from(1, 9);
        }
    }

    private String blank() {
        return oneOf(" ", " ", " ", "\n", "  ");
    }

    /** A steered craft has power enough for many wheels and jets, so that they are at work for long. */
    private String kindAt(int i) {
        if (i < 2 && (steered || below(2) == 0)) {
            return i == 0 ? "tank" : "recorder";
        }
        if (!steered) {
            return oneOf(KINDS);
        }
        return i < 5 ? "reactor" : oneOf("wheel", "wheel", "jet", "pulser", "coil", "gyro", "suneye", "battery", oneOf(KINDS));
    }

    private String book() {
        kinds.clear();
        names.clear();
        StringBuilder text = new StringBuilder();
        int count = below(4) == 0 ? from(19, 21) : from(1, 19);
        for (int i = 0; i < count; i++) {
            String kind = kindAt(i);
            String numbers = numbersOf(kind);
            if (numbers.startsWith("-1") || numbers.contains(" -1 ") || numbers.endsWith(" -1")) {
                i--;
                continue;
            }
            String name = oneOf("u", "wheel", "x9", "abcdef") + i;
            text.append(kind).append(blank()).append(name).append(blank()).append(numbers);
            text.append(below(5) == 0 ? " " : "").append(';').append(below(5) == 0 ? "\n" : "");
            kinds.add(kind);
            names.add(name);
        }
        return text.toString();
    }

    private String nameOf(String fitting) {
        List<String> fit = new ArrayList<>();
        for (int i = 0; i < kinds.size(); i++) {
            if (fitting.isEmpty() || fitting.contains(kinds.get(i))) {
                fit.add(names.get(i));
            }
        }
        if (fit.isEmpty()) {
            return null;
        }
        return fit.get(below(fit.size()));
    }

    private String act() {
        switch (below(9)) {
            case 0:
            case 1:
            case 2:
                return "on " + nameOf(LOADS);
            case 3:
                return "off " + nameOf(below(4) == 0 ? "" : LOADS);
            case 4:
                return "mode " + below(4);
            case 5:
                return "aim " + below(3) + " " + below(3600);
            case 6:
                return "restart " + nameOf("");
            case 7:
                return "wipe " + nameOf("recorder");
            default:
                return "stop " + (below(4) == 0 ? below(30) : from(20, 29));
        }
    }

    private String term() {
        switch (below(7)) {
            case 0:
                return "level " + nameOf("battery cellpack tank recorder") + oneOf("<", ">") + from(0, 300);
            case 1:
                return "heat " + nameOf("") + oneOf("<", " > ") + from(-200, 400);
            case 2:
                return "speed " + nameOf("wheel") + oneOf("<", ">") + from(-40, 40);
            case 3:
                return "reading " + nameOf("gyro finegyro suneye probe camera") + oneOf("<", ">") + from(-40, 300);
            case 4:
                return "light" + oneOf("<", ">") + from(0, 100);
            case 5:
                return "angle " + below(3) + oneOf("<", ">") + below(3600);
            default:
                return "rate " + below(3) + oneOf("<", ">") + from(-20, 20);
        }
    }

    private String plan() {
        StringBuilder text = new StringBuilder();
        int count = below(4) == 0 ? from(29, 31) : from(0, 25);
        for (int i = 0; i < count; i++) {
            String when = oneOf("at " + below(700), "each " + from(1, 90), "when " + term());
            String line = when + " " + act() + ";";
            if (line.contains("null")) {
                i--;
                continue;
            }
            text.append(line).append(below(4) == 0 ? "\n" : "");
        }
        return text.toString();
    }

    /** Breaks a text at a place, mostly in a way that a fault is found there. */
    private String hurt(String text) {
        if (text.isEmpty()) {
            return "-";
        }
        int i = below(text.length());
        String more = oneOf("-", "7", "z", ";", "<", ">", " ", "A", "\0", "-5", "99999", "123456", "heat ", "\u00ff", "q q");
        switch (below(4)) {
            case 0:
                return text.substring(0, i) + more + text.substring(i);
            case 1:
                return text.substring(0, i) + text.substring(i + 1);
            case 2:
                return text.substring(0, i) + more + text.substring(i + 1);
            default:
                return text.substring(0, i);
        }
    }

    private void type(String text) {
        int[] w = Check.words(text);
        for (int i = 0; i < w.length; i += 5) {
            int k = i;
            same("feed", () -> craft.feed(w[k], w[k + 1], w[k + 2], w[k + 3], w[k + 4]),
                () -> model.feed(w[k], w[k + 1], w[k + 2], w[k + 3], w[k + 4]));
        }
    }

    private int load(String text) {
        type(text);
        int n = text.length();
        int got = same("load " + text, () -> craft.load(n), () -> model.load(n));
        compareFault(text);
        return got;
    }

    private int plan(String text) {
        type(text);
        int n = text.length();
        int got = same("plan " + text, () -> craft.plan(n), () -> model.plan(n));
        compareFault(text);
        return got;
    }

    private void compareFault(String text) {
        for (int what = -1; what <= 2; what++) {
            int k = what;
            same("fault " + k + " of " + text, () -> craft.fault(k), () -> model.fault(k));
        }
    }

    // ---- all that can be seen
    private void compareAll() {
        for (int what = -1; what <= 28; what++) {
            int k = what;
            same("craft " + k, () -> craft.craft(k), () -> model.craft(k));
        }
        for (int unit = -1; unit <= craft.craft(0); unit++) {
            compareUnit(unit);
        }
        for (int i = -1; i <= 31; i++) {
            for (int what = -1; what <= 3; what++) {
                int n = i;
                int k = what;
                same("item " + n + " " + k, () -> craft.item(n, k), () -> model.item(n, k));
            }
        }
        for (int i = -1; i <= 501; i++) {
            int n = i;
            same("down " + n, () -> craft.down(n), () -> model.down(n));
        }
    }

    private void compareUnit(int unit) {
        for (int what = -1; what <= 65; what++) {
            int k = what;
            same("part " + unit + " " + k, () -> craft.part(unit, k), () -> model.part(unit, k));
        }
        for (int question = -1; question <= 6; question++) {
            int k = question;
            same("ask " + unit + " " + k, () -> craft.ask(unit, k), () -> model.ask(unit, k));
        }
        for (int i = -1; i <= 9; i++) {
            int k = i;
            same("name " + unit + " " + k, () -> craft.name(unit, k), () -> model.name(unit, k));
        }
        for (int i = -1; i <= 40; i++) {
            int k = i;
            same("kept " + unit + " " + k, () -> craft.kept(unit, k), () -> model.kept(unit, k));
        }
        int late = below(2100);
        same("kept " + unit + " " + late, () -> craft.kept(unit, late), () -> model.kept(unit, late));
    }

    private void compareMaking() {
        for (int i = -1; i <= 101; i++) {
            for (int what = -1; what <= 3; what++) {
                int n = i;
                int k = what;
                same("note " + n + " " + k, () -> craft.note(n, k), () -> model.note(n, k));
            }
        }
        for (int address = -1; address <= craft.craft(13) + 1; address++) {
            int k = address;
            same("at " + k, () -> craft.at(k), () -> model.at(k));
        }
    }

    private void command() {
        int act = below(30) == 0 ? from(-1, 7) : below(3) == 0 ? from(0, 6) : 0;
        int a = act == 2 ? from(below(9) == 0 ? -1 : 0, below(9) == 0 ? 4 : 3) : from(below(20) == 0 ? -1 : 0, 19);
        if (act == 3) {
            a = from(below(9) == 0 ? -1 : 0, below(9) == 0 ? 3 : 2);
        }
        int b = below(9) == 0 ? from(-1, 3601) : below(3600);
        int unit = a;
        same("command " + act + " " + a + " " + b, () -> craft.command(act, unit, b) ? 1 : 0,
            () -> model.command(act, unit, b));
    }

    private void switchAllOn() {
        for (int i = 0; i < kinds.size(); i++) {
            for (int k = 0; k < 2; k++) {
                int unit = i;
                same("command 0 " + i, () -> craft.command(0, unit, 0) ? 1 : 0, () -> model.command(0, unit, 0));
            }
        }
    }

    private void fly(int rounds) {
        for (int i = 0; i < rounds; i++) {
            for (int k = below(6); k > 0; k--) {
                command();
            }
            if (below(8) == 0) {
                String text = below(3) == 0 ? hurt(plan()) : plan();
                plan(text);
            }
            int n = below(12) == 0 ? from(-1, 1001) : from(0, below(2) == 0 ? 9 : 120);
            same("run " + n, () -> craft.run(n), () -> model.run(n));
            compareAll();
        }
        compareMaking();
    }

    private void readHurtTexts(int rounds) {
        for (int i = 0; i < rounds; i++) {
            plan(hurt(plan()));
        }
        compareAll();
    }

    private void go() {
        String text = book();
        if (below(20) == 0) {
            load(hurt(text));
            compareAll();
        }
        load(text);
        if (craft.craft(0) == 0) {
            return;
        }
        compareMaking();
        compareAll();
        plan(plan());
        if (steered || below(2) == 0) {
            switchAllOn();
        }
        if (steered || below(2) == 0) {
            int m = from(1, 2);
            same("command 2 " + m, () -> craft.command(2, m, 0) ? 1 : 0, () -> model.command(2, m, 0));
        }
        fly(from(3, 8));
        readHurtTexts(5);
        if (below(3) == 0) {
            load(hurt(book()));
            compareAll();
        }
        count();
    }

    // ---- whether the runs came where they should
    private static final long[] seen = new long[16];

    private void count() {
        int[] whats = {16, 17, 18, 19, 20, 21, 22, 23};
        for (int k = 0; k < whats.length; k++) {
            seen[k] += craft.craft(whats[k]);
        }
        for (int i = 0; i < craft.craft(0); i++) {
            int code = craft.part(i, 0);
            seen[8] += code == 14 ? craft.part(i, 40) : 0;
            seen[9] += code == 18 ? craft.part(i, 40) : 0;
            seen[10] += code == 19 ? craft.part(i, 40) : 0;
            seen[11] += code == 12 && craft.part(i, 32) == 9999 ? 1 : 0;
            seen[12] += code == 16 && craft.part(i, 44) != 0 ? 1 : 0;
        }
    }

    public static void main(String[] args) {
        int runs = args.length > 0 ? Integer.parseInt(args[0]) : 400;
        for (long seed = 0; seed < runs; seed++) {
            new ModelTest(seed).go();
        }
        String[] whats = {"brownouts", "failures", "frames", "lost frames", "bytes down", "acts done", "acts refused",
            "restarts", "pictures", "jet shots", "pulser shots", "blind suneyes", "turning wheels"};
        for (int k = 0; k < whats.length; k++) {
            System.out.println(whats[k] + ": " + seen[k]);
            Check.due("whether the runs met " + whats[k], seen[k] > 0, true);
        }
        Check.end();
    }
}
