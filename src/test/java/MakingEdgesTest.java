import java.util.NoSuchElementException;

/** The edges that "Terms" II (how units are made) and promises 8 to 12 name, by sentence. */
public final class MakingEdgesTest {
    private static final Class<IndexOutOfBoundsException> OUT = IndexOutOfBoundsException.class;
    private static final Class<NoSuchElementException> MISSING = NoSuchElementException.class;

    /** Stands ahead of the unit that is looked at: units 0 (a tank), 1 (a recorder) and 2 (neither). */
    private static final String AHEAD = "tank t 9;recorder r 20;heater h 9;";

    /** A number of a kind at its edges; the texts are what stands ahead of it and behind it in the line. */
    private static void range(String before, int least, int greatest, String behind) {
        String ahead = AHEAD + before + " ";
        Check.goodBook(ahead + least + behind + ";", 4);
        Check.goodBook(ahead + greatest + behind + ";", 4);
        Check.bookFault(ahead + (least - 1) + behind + ";", 5, ahead.length());
        Check.bookFault(ahead + (greatest + 1) + behind + ";", 5, ahead.length());
    }

    /** A number that is that of a unit: those that fit are told, the unit itself has number 3. */
    private static void unit(String before, String behind, int... fits) {
        String ahead = AHEAD + before + " ";
        for (int x = -1; x <= 4; x++) {
            boolean good = false;
            for (int fit : fits) {
                good |= fit == x;
            }
            if (good) {
                Check.goodBook(ahead + x + behind + ";", 4);
            } else {
                Check.bookFault(ahead + x + behind + ";", 5, ahead.length());
            }
        }
    }

    // ---- II. The numbers of each kind
    private static void storeNumbers() {
        Check.sentence("Terms II, layer 2", "battery: 1 .. 2000", () -> range("battery x", 1, 2000, ""));
        Check.sentence("Terms II, layer 3", "cellpack: 1 .. 2000, 1 .. 8", () -> {
            range("cellpack x", 1, 2000, " 1");
            range("cellpack x 1", 1, 8, "");
        });
        Check.sentence("Terms II, layer 4", "tank: 1 .. 2000", () -> range("tank x", 1, 2000, ""));
        Check.sentence("Terms II, layer 5", "recorder: 20 .. 2000", () -> range("recorder x", 20, 2000, ""));
    }

    private static void loadNumbers() {
        Check.sentence("Terms II, layer 7", "heater: 1 .. 50", () -> range("heater x", 1, 50, ""));
        Check.sentence("Terms II, layer 8",
            "thermo: 1 .. 50; the number of a unit that stands ahead in the book; -300 .. 900", () -> {
            range("thermo x", 1, 50, " 0 0");
            unit("thermo x 1", " 0", 0, 1, 2);
            range("thermo x 1 0", -300, 900, "");
            Check.bookFault("thermo x 1 0 0;", 5, 11);
        });
        Check.sentence("Terms II, layer 10", "gyro: 1 .. 50, 1 .. 50, 0 .. 2", () -> gyroNumbers("gyro"));
        Check.sentence("Terms II, layer 11", "finegyro: like gyro", () -> gyroNumbers("finegyro"));
        Check.sentence("Terms II, layer 12", "suneye: 1 .. 50, 1 .. 50", () -> {
            range("suneye x", 1, 50, " 1");
            range("suneye x 1", 1, 50, "");
        });
        Check.sentence("Terms II, layer 13", "probe: 1 .. 50, 1 .. 50, the number of a unit that stands ahead", () -> {
            range("probe x", 1, 50, " 1 0");
            range("probe x 1", 1, 50, " 0");
            unit("probe x 1 1", "", 0, 1, 2);
        });
        Check.sentence("Terms II, layer 14",
            "camera: 1 .. 50, 1 .. 50, the number of a recorder that stands ahead", () -> {
            range("camera x", 1, 50, " 1 1");
            range("camera x 1", 1, 50, " 1");
            unit("camera x 1 1", "", 1);
        });
        Check.sentence("Terms II, layer 20", "radio: 1 .. 50, 1 .. 40", () -> radioNumbers("radio"));
        Check.sentence("Terms II, layer 21", "beacon: like radio", () -> radioNumbers("beacon"));
    }

    private static void gyroNumbers(String kind) {
        range(kind + " x", 1, 50, " 1 0");
        range(kind + " x 1", 1, 50, " 0");
        range(kind + " x 1 1", 0, 2, "");
    }

    private static void radioNumbers(String kind) {
        range(kind + " x", 1, 50, " 1");
        range(kind + " x 1", 1, 40, "");
    }

    private static void actuatorNumbers() {
        Check.sentence("Terms II, layer 16", "wheel: 1 .. 50, 0 .. 2", () -> {
            range("wheel x", 1, 50, " 0");
            range("wheel x 1", 0, 2, "");
        });
        Check.sentence("Terms II, layer 17", "coil: 1 .. 50, 0 .. 2", () -> {
            range("coil x", 1, 50, " 0");
            range("coil x 1", 0, 2, "");
        });
        Check.sentence("Terms II, layer 18",
            "jet: 1 .. 50, 0 .. 2, the number of a tank that stands ahead", () -> jetNumbers("jet"));
        Check.sentence("Terms II, layer 19", "pulser: like jet", () -> jetNumbers("pulser"));
    }

    private static void jetNumbers(String kind) {
        range(kind + " x", 1, 50, " 0 0");
        range(kind + " x 1", 0, 2, " 0");
        unit(kind + " x 1 1", "", 0);
    }

    private static void sourceAndLinkNumbers() {
        Check.sentence("Terms II, layer 23", "panel: 1 .. 200, 0 .. 3", () -> panelNumbers("panel"));
        Check.sentence("Terms II, layer 24", "tracker: like panel", () -> panelNumbers("tracker"));
        Check.sentence("Terms II, layer 25", "reactor: 1 .. 200, the number of a tank that stands ahead", () -> {
            range("reactor x", 1, 200, " 0");
            unit("reactor x 1", "", 0);
        });
        Check.sentence("Terms II, layer 27", "pipe: the numbers of two units that stand ahead", () -> {
            unit("pipe x", " 0", 0, 1, 2);
            unit("pipe x 0", "", 0, 1, 2);
            Check.bookFault("pipe x 0 0;", 5, 7);
        });
        Check.sentence("Terms II, layer 28", "hose: the numbers of two tanks that stand ahead; flow 1 .. 9", () -> {
            unit("hose x", " 0 1", 0);
            unit("hose x 0", " 1", 0);
            range("hose x 0 0", 1, 9, "");
        });
        Check.sentence("Terms II, layers 14 and 18", "the number of a tank that stands ahead", () -> {
            // What stood behind in a book that was read before is no unit that stands ahead.
            SmallCraft craft = Check.flying("tank a 9;tank b 9;tank c 9;recorder d 20;recorder e 20;");
            String[] texts = {"tank a 9;jet j 1 0 2;", "tank a 9;reactor j 1 2;", "tank a 9;hose j 0 2 1;",
                "tank a 9;tank b 9;tank c 9;camera j 1 1 3;",
                "tank a 9;tank b 9;tank c 9;camera j 1 1 4;", "tank a 9;pipe j 0 2;", "tank a 9;thermo j 1 3 0;"};
            for (String text : texts) {
                Check.due(text, Check.load(craft, text), -1);
                Check.due("its fault", craft.fault(0), 5);
            }
        });
        Check.sentence("Terms II", "A unit that is told to be of a KIND is of that layer, not of one on it.", () -> {
            String stores = "battery b 9;cellpack c 9 1;recorder r 20;tank t 9;";
            String[] lines = {"jet x 1 0 ", "pulser x 1 0 ", "reactor x 1 ", "camera x 1 1 "};
            int[] fits = {3, 3, 3, 2};
            for (int k = 0; k < lines.length; k++) {
                for (int unit = 0; unit < 4; unit++) {
                    if (unit == fits[k]) {
                        Check.goodBook(stores + lines[k] + unit + ";", 5);
                    } else {
                        Check.bookFault(stores + lines[k] + unit + ";", 5, stores.length() + lines[k].length());
                    }
                }
            }
        });
    }

    private static void panelNumbers(String kind) {
        range(kind + " x", 1, 200, " 0");
        range(kind + " x 1", 0, 3, "");
    }

    // ---- II. The layers
    private static void partsUntilTheyCome() {
        Check.sentence("Terms II",
            "All parts are 0 until they come, or a FITTING gives them something; but a CONSTANT has its "
            + "number all the time.", () -> {
            SmallCraft craft = Check.flying("cellpack c 800 4;coil k 3 2;tracker p 90 2;recorder r 50;tank t 9;pulser l 9 2 4;");
            Check.row("grade, ahead of its layer: 2 + 0 + 3", Check.parts(craft, 0, 5, 8, 12), 5, 5, 3);
            Check.row("pole, ahead of its layer: 7 + 0 - 4", Check.parts(craft, 1, 41, 46), 3, 7);
            Check.row("step, ahead of its layer: 1 + 0 + 5", Check.parts(craft, 2, 5, 55), 6, 5);
            Check.row("room 0, pages 0", Check.parts(craft, 3, 3, 5, 8), 8, 1, 1);
            Check.row("gas 0, beat 0: 4 / 2, then 6 / 2", Check.parts(craft, 5, 41), 2);
            for (int unit = 0; unit < 6; unit++) {
                int[] before = Check.parts(craft, unit, 3, 5);
                craft.command(4, unit, 0);
                Check.row("0 again in unit " + unit + " that is started again", Check.parts(craft, unit, 3, 5), before);
            }
            Check.row("kick 3 again", Check.parts(craft, 1, 41, 42), 3, 7);
        });
        Check.sentence("Terms II",
            "the answer is that of its uppermost layer (made or not) that tells one, from the parts as they "
            + "are.", () -> {
            SmallCraft craft = Check.flying("tank t 9;pulser l 9 2 0;radio r 5 9;recorder d 20;camera m 4 3 3;");
            Check.row("widths", new int[] {craft.part(1, 5), craft.part(2, 5), craft.part(4, 5)}, 3, 2, 1);
            Check.row("a camera's channels ahead of its lens, and behind it", new int[] {craft.part(4, 30), craft.ask(4, 4)},
                3, 3 + craft.part(4, 39));
        });
        Check.sentence("Terms II",
            "The craft has DRAW (1, 2, 3, .., each time that it is taken: it goes on as long as the BOOK "
            + "stands)", () -> {
            SmallCraft craft = Check.flying("heater h 5;");
            Check.row("the first serial", new int[] {craft.part(0, 2), craft.craft(12)}, 1, 2);
            craft.command(4, 0, 0);
            Check.row("it goes on", new int[] {craft.part(0, 2), craft.craft(12)}, 3, 4);
            Check.load(craft, "tank");
            craft.command(4, 0, 0);
            Check.row("a fault changes nothing", new int[] {craft.part(0, 2), craft.craft(12)}, 5, 6);
            Check.load(craft, "heater h 5;");
            Check.row("a new book, a new row", new int[] {craft.part(0, 2), craft.craft(12)}, 1, 2);
        });
        Check.sentence("Terms II", "ADDRESS (0 at first) and NOTES", () -> {
            SmallCraft craft = Check.flying("cellpack c 9 1;tank t 9;");
            Check.row("bases", new int[] {craft.part(0, 4), craft.part(1, 4), craft.craft(13)}, 0, 5, 6);
            craft.command(4, 0, 0);
            Check.row("it goes on", new int[] {craft.part(0, 4), craft.craft(13)}, 6, 11);
            Check.load(craft, "cellpack c 9 1;tank t 9;");
            Check.row("0 at first", new int[] {craft.part(0, 4), craft.craft(13), craft.craft(15), craft.note(0, 0)},
                0, 6, 7, 0);
        });
        Check.sentence("Terms II, layer 6", "the craft's RESERVE (0 at first) grows by share", () -> {
            SmallCraft craft = Check.flying("heater h 50;heater i 1;tank t 9;");
            Check.due("two shares", craft.craft(14), 51);
            craft.command(4, 2, 0);
            Check.due("no load", craft.craft(14), 51);
            craft.command(4, 0, 0);
            Check.due("it grows again", craft.craft(14), 101);
            Check.load(craft, "heater h 7;");
            Check.due("0 at first", craft.craft(14), 7);
            Check.load(craft, "tank t 7;");
            Check.due("no share", craft.craft(14), 0);
        });
        Check.sentence("Terms II, layer 0", "width = SPAN, but at least 1; ADDRESS grows by width", () -> {
            String book = AHEAD + "battery a 1;cellpack b 1 1;thermo c 1 0 0;gyro d 1 1 0;finegyro e 1 1 0;suneye f 1 1;"
                + "probe g 1 1 0;camera i 1 1 1;wheel j 1 0;coil k 1 0;jet l 1 0 0;pulser m 1 0 0;radio n 1 1;beacon o 1 1;"
                + "panel p 1 0;tracker q 1 0;reactor s 1 0;";
            SmallCraft craft = Check.flying(book);
            int address = 0;
            int[] widths = {1, 1, 1, 1, 5, 1, 1, 1, 1, 1, 1, 1, 1, 1, 3, 2, 2, 1, 6, 1};
            for (int unit = 0; unit < 20; unit++) {
                Check.row("base and width of unit " + unit, Check.parts(craft, unit, 4, 5), address, widths[unit]);
                address += widths[unit];
            }
            Check.due("address", craft.craft(13), address);
        });
    }

    /** Starts a unit again, thirty times in all: what a part should be then is told of the latest DRAW. */
    private interface Wrap {
        int due(int draw);
    }

    private static void wraps(String book, int unit, int what, Wrap wrap) {
        SmallCraft craft = Check.flying(book);
        boolean[] met = new boolean[8];
        for (int i = 0; i <= 30; i++) {
            int want = wrap.due(craft.craft(12));
            Check.due("part " + what + " at DRAW " + craft.craft(12), craft.part(unit, what), want);
            craft.command(4, unit, 0);
            met[Math.floorMod(want, 8)] = true;
            // Every second time another unit takes draws between, so that the rests are not always the same.
            if (i % 2 == 1 && craft.craft(23) < 30) {
                craft.command(4, 0, 0);
                craft.command(4, unit, 0);
            }
        }
        int kinds = 0;
        for (boolean one : met) {
            kinds += one ? 1 : 0;
        }
        Check.due("more than one rest was met", kinds > 1, true);
    }

    private static void restsOfDraw() {
        Check.sentence("Terms II, layer 2",
            "wear = DRAW MOD 5", () -> wraps("tank t 9;battery x 9;", 1, 11, draw -> draw % 5));
        Check.sentence("Terms II, layer 6", "line = (serial + DRAW) MOD 3", () ->
            wraps("tank t 9;heater x 9;", 1, 21, draw -> (draw - 1 + draw) % 3));
        Check.sentence("Terms II, layer 9",
            "noise = DRAW MOD 7", () -> wraps("tank t 9;suneye x 9 9;", 1, 29, draw -> draw % 7));
        Check.sentence("Terms II, layer 10",
            "drift = noise - 3", () -> wraps("tank t 9;gyro x 9 9 0;", 1, 33, draw -> draw % 7 - 3));
        Check.sentence("Terms II, layer 11", "drift becomes drift / 2; fine = DRAW MOD 4 + 1", () -> {
            wraps("battery b 9;finegyro x 9 9 0;", 1, 36, draw -> draw % 4 + 1);
            int[] halves = {-1, -1, 0, 0, 0, 1, 1};
            wraps("battery b 9;finegyro x 9 9 0;", 1, 33, draw -> halves[(draw - 1) % 7]);
        });
        Check.sentence("Terms II, layer 12", "wide = 600 + noise * 40", () -> {
            SmallCraft craft = Check.flying("suneye x 9 9;");
            for (int i = 1; i <= 30; i++) {
                Check.due("wide", craft.part(0, 37), 600 + craft.craft(12) % 7 * 40);
                craft.command(4, 0, 0);
            }
        });
        Check.sentence("Terms II, layer 13",
            "shift = noise - 2", () -> wraps("tank t 9;probe x 9 9 0;", 1, 38, draw -> draw % 7 - 2));
        Check.sentence("Terms II, layer 14", "lens = channels + DRAW MOD 3", () ->
            wraps("recorder r 20;camera x 9 9 0;", 1, 39, draw -> 3 + draw % 3));
        Check.sentence("Terms II, layer 18",
            "gas = DRAW MOD 3 + 1", () -> wraps("tank t 9;jet x 9 0 0;", 1, 47, draw -> draw % 3 + 1));
        Check.sentence("Terms II, layer 22",
            "wire = DRAW MOD 3", () -> wraps("tank t 9;panel x 9 0;", 1, 52, draw -> draw % 3));
        Check.sentence("Terms II, layer 26", "twist = SPAN + DRAW MOD 2", () ->
            wraps("battery b 9;pipe x 0 0;", 1, 58, draw -> 1 + draw % 2));
    }

    private static void otherRests() {
        Check.sentence("Terms II, layer 4", "valve = base MOD 4", () -> {
            SmallCraft craft = Check.flying("tank t 9;");
            for (int i = 0; i <= 30; i++) {
                Check.row("base and valve", Check.parts(craft, 0, 4, 17), i, i % 4);
                craft.command(4, 0, 0);
            }
        });
        Check.sentence("Terms II, layer 20", "SPAN 2 + tone MOD 3.", () -> {
            SmallCraft craft = Check.flying("radio r 9 9;");
            for (int i = 0; i <= 30; i++) {
                Check.row("tone and span", new int[] {craft.part(0, 49), craft.ask(0, 1)}, 4 * i + 1, 2 + (4 * i + 1) % 3);
                craft.command(4, 0, 0);
            }
        });
        Check.sentence("Terms II, layer 21", "every = 10 + tone MOD 7", () -> {
            SmallCraft craft = Check.flying("beacon r 9 9;");
            for (int i = 0; i <= 30; i++) {
                Check.row("tone and every", Check.parts(craft, 0, 49, 31), 4 * i + 1, 10 + (4 * i + 1) % 7);
                craft.command(4, 0, 0);
            }
        });
        Check.sentence("Terms II, layer 21", "rate becomes rate / 2 + 1", () -> {
            int[] rates = {1, 2, 3, 39, 40};
            int[] halves = {1, 2, 2, 20, 21};
            for (int k = 0; k < rates.length; k++) {
                Check.due("of " + rates[k], Check.flying("beacon r 9 " + rates[k] + ";").part(0, 50), halves[k]);
            }
        });
        Check.sentence("Terms II, layer 24", "at = (face * 900 + turn) MOD 3600", () -> {
            for (int face = 0; face <= 3; face++) {
                SmallCraft craft = Check.flying("tracker p 9 " + face + ";");
                Check.due("face " + face, craft.part(0, 56), face * 900 + 2 * 10);
            }
        });
        Check.sentence("Terms II, layer 26", "SPAN 1 + one MOD 2.", () -> {
            SmallCraft craft = Check.flying(AHEAD + "pipe a 0 0;pipe b 1 0;pipe c 2 0;pipe d 3 0;");
            Check.row("spans", new int[] {craft.ask(3, 1), craft.ask(4, 1), craft.ask(5, 1), craft.ask(6, 1)}, 1, 2, 1, 2);
        });
        Check.sentence("Terms II, layer 16", "Parts: most = 200 + serial; speed = 0.", () -> {
            SmallCraft craft = Check.flying("wheel w 1 0;");
            Check.row("the first", Check.parts(craft, 0, 2, 42, 43, 44), 1, 2, 201, 0);
        });
        Check.sentence("Terms II, layer 16", "Answers: PUSH 2 + most / 100.", () -> {
            StringBuilder book = new StringBuilder("battery b 9;");
            for (int i = 0; i < 18; i++) {
                book.append("finegyro f").append(i).append(" 1 1 0;");
            }
            SmallCraft craft = Check.flying(book + "wheel w 1 0;");
            for (int serial = 76; serial <= 104; serial += 2) {
                Check.row("serial " + serial, new int[] {craft.part(19, 2), craft.part(19, 41), craft.part(19, 42),
                    craft.ask(19, 5)}, serial, 2, 2,
                    serial < 100 ? 4 : 5);
                craft.command(4, 19, 0);
            }
        });
        Check.sentence("Terms II, layer 1", "level = room / 2", () -> {
            SmallCraft craft = Check.flying("recorder r 20;recorder s 21;recorder u 2000;");
            Check.row("first", new int[] {craft.part(0, 19), craft.part(1, 19), craft.part(2, 19)}, 10, 10, 1000);
        });
        Check.sentence("Terms II, layer 2", "level = room * 3 / 4", () -> {
            SmallCraft craft = Check.flying("battery a 1;battery b 2;battery c 2000;cellpack d 1 8;cellpack e 2000 1;cellpack f 2000 8;");
            int[] levels = new int[6];
            for (int unit = 0; unit < 6; unit++) {
                levels[unit] = craft.part(unit, 10);
            }
            Check.row("levels", levels, 0, 1, 1500, 0, 187, 1500);
        });
        Check.sentence("Terms II, layer 5", "Fitting: level = 0; keep = SPAN", () -> {
            SmallCraft craft = Check.flying("recorder r 20;recorder s 2000;");
            Check.row("the least", Check.parts(craft, 0, 10, 18, 20), 0, 2, 3);
            Check.row("the greatest", Check.parts(craft, 1, 10, 18, 20), 0, 200, 241);
        });
    }

    private static void stubborn() {
        Check.sentence("Terms II", "it is STUBBORN, if that less cold is odd.", () -> {
            // Cold is 1 + 8; TEST is then 1 + 8 + seal 10 - room + wear 3 * 3, so that it is 19 - room more.
            int[] rooms = {17, 18, 19, 20, 21, 22, 2000, 1999};
            for (int room : rooms) {
                SmallCraft craft = Check.flying("battery b " + room + ";");
                Check.row("cold and TEST", new int[] {craft.part(0, 6), craft.ask(0, 3)}, 9, 28 - room);
                Check.due("19 - " + room + " is odd or not", craft.part(0, 64), room % 2 == 0 ? 1 : 0);
            }
        });
        Check.sentence("Terms II",
            "Behind all (and behind each unit that is started again) TEST is asked of the unit", () -> {
            SmallCraft craft = Check.flying("coil k 3 0;");
            Check.due("push 9 more", craft.part(0, 64), 1);
            Check.due("refused once", craft.command(0, 0, 0), false);
            Check.due("stubborn no more", craft.part(0, 64), 0);
            craft.command(4, 0, 0);
            Check.due("stubborn again", craft.part(0, 64), 1);
            SmallCraft shifts = Check.flying("tank t 9;battery b 20;");
            for (int i = 1; i <= 15; i++) {
                Check.due("restart " + i, shifts.part(1, 64), Math.abs(shifts.ask(1, 3) - shifts.part(1, 6)) % 2);
                shifts.command(4, 1, 0);
                shifts.command(4, 0, 0);
            }
        });
    }

    private static void startedAgain() {
        Check.sentence("Terms II",
            "number (how many units were made ahead of it; of one that is started again the one that it had)", () -> {
            SmallCraft craft = Check.flying(AHEAD);
            craft.command(4, 1, 0);
            craft.command(4, 0, 0);
            Check.row("numbers", new int[] {craft.part(0, 1), craft.part(1, 1), craft.part(2, 1)}, 0, 1, 2);
            Check.row("of the notes, too", new int[] {craft.note(9, 0), craft.note(12, 0)}, 1, 0);
        });
        Check.sentence("Terms II",
            "the unit goes, and one is made in its place, from its NUMBERS in the book, with DRAW, ADDRESS, "
            + "RESERVE and NOTES as they go on", () -> {
            SmallCraft craft = Check.flying("heater h 9;thermo o 7 0 -5;recorder r 30;");
            Check.row("at first", Check.crafts(craft, 0, 12, 13, 14, 15), 3, 6, 3, 16, 10);
            craft.run(25);
            Check.due("a frame", craft.part(2, 10), 12);
            craft.command(4, 1, 0);
            craft.command(4, 2, 0);
            Check.row("its numbers", Check.parts(craft, 1, 23, 27, 28), 7, 0, -5);
            Check.row("what it kept is gone", new int[] {craft.part(2, 9), craft.part(2, 10), craft.kept(2, 0)}, 30, 0, -1);
            Check.row("they go on", Check.crafts(craft, 0, 12, 13, 14, 15), 3, 10, 5, 23, 17);
            Check.row("its name stays", new int[] {craft.name(1, 0), craft.name(1, 1)}, 'o', -1);
        });
        Check.sentence("Terms II", "its HEAT is 200, it is not BROKEN.", () -> {
            SmallCraft craft = Check.flying("tank t 1;");
            craft.run(600);
            Check.due("broken by cold", craft.part(0, 63), 1);
            craft.command(4, 0, 0);
            Check.row("heat, broken", Check.parts(craft, 0, 62, 63), 200, 0);
            SmallCraft warm = Check.flying("heater h 5;cellpack c 2000 8;", 0);
            warm.run(1);
            Check.row("it is warmer, and on", new int[] {warm.part(0, 62) > 200 ? 1 : 0, warm.part(0, 22)}, 1, 1);
            warm.command(4, 0, 0);
            Check.row("heat, broken, on", Check.parts(warm, 0, 62, 63, 22), 200, 0, 0);
        });
        Check.sentence("Terms II", "At most 30 times since load().", () -> {
            SmallCraft craft = Check.flying("tank t 1;heater h 9;");
            for (int i = 1; i <= 30; i++) {
                Check.due("time " + i, craft.command(4, i % 2, 0), true);
            }
            int[] before = Check.crafts(craft, 12, 13, 14, 15, 23);
            Check.due("time 31", craft.command(4, 0, 0), false);
            Check.due("time 32", craft.command(4, 1, 0), false);
            Check.row("nothing is done", Check.crafts(craft, 12, 13, 14, 15, 23), before);
            Check.due("thirty", craft.craft(23), 30);
            Check.load(craft, "tank");
            Check.due("not behind a fault", craft.command(4, 0, 0), false);
            Check.load(craft, "tank t 1;");
            for (int i = 1; i <= 30; i++) {
                Check.due("time " + i + " since the next load", craft.command(4, 0, 0), true);
            }
            Check.due("time 31 since the next load", craft.command(4, 0, 0), false);
        });
    }

    // ---- promises 8 to 12
    /** Every kind once, two books; the rows tell which parts beside 0 .. 6 and 62 .. 64 each unit has. */
    private static final String FIRST_BOOK = "tank a 90;recorder b 50;battery c 100;cellpack d 800 4;heater e 12;thermo f 8 0 300;"
        + "gyro g 5 2 1;finegyro h 5 2 2;suneye i 4 3;probe j 4 3 0;camera k 4 3 1;wheel l 3 1;coil m 3 2;jet n 9 1 0;"
        + "pulser o 9 1 0;radio p 5 20;beacon q 5 21;panel r 90 2;tracker s 90 2;reactor t 90 0;";
    private static final int[][] FIRST_PARTS = {
        {7, 8, 9, 10, 17}, {7, 8, 9, 10, 18, 19, 20}, {7, 8, 9, 10, 11, 12, 13}, {7, 8, 9, 10, 11, 12, 13, 14, 15, 16},
        {21, 22, 23, 24, 25}, {21, 22, 23, 24, 25, 26, 27, 28}, {21, 22, 23, 24, 29, 30, 31, 32, 33, 34, 35},
        {21, 22, 23, 24, 29, 30, 31, 32, 33, 34, 35, 36}, {21, 22, 23, 24, 29, 30, 31, 32, 37},
        {21, 22, 23, 24, 27, 29, 30, 31, 32, 38}, {21, 22, 23, 24, 27, 29, 30, 31, 32, 39, 40},
        {21, 22, 23, 24, 35, 41, 42, 43, 44}, {21, 22, 23, 24, 35, 41, 42, 45, 46}, {21, 22, 23, 24, 27, 35, 40, 41, 42, 47},
        {21, 22, 23, 24, 27, 35, 40, 41, 42, 47, 48}, {21, 22, 23, 24, 49, 50, 51}, {21, 22, 23, 24, 31, 49, 50, 51},
        {43, 52, 53, 54}, {43, 52, 53, 54, 55, 56}, {27, 43, 52, 57}
    };
    private static final String SECOND_BOOK = "tank a 90;tank b 90;pipe c 0 1;hose d 0 1 5;";
    private static final int[][] SECOND_PARTS = {
        {7, 8, 9, 10, 17}, {7, 8, 9, 10, 17}, {58, 59, 60, 61}, {58, 59, 60, 61}
    };

    private static void whoHas(String book, int[][] parts) {
        for (int unit = 0; unit < parts.length; unit++) {
            SmallCraft craft = Check.flying(book);
            int u = unit;
            for (int what = -2; what <= 67; what++) {
                boolean owns = what >= 0 && what <= 6 || what >= 62 && what <= 64;
                for (int part : parts[unit]) {
                    owns |= part == what;
                }
                int k = what;
                if (owns) {
                    Check.due("part " + k + " of unit " + u, craft.part(u, k) >= Integer.MIN_VALUE, true);
                } else {
                    Check.fails("part " + k + " of unit " + u, MISSING, () -> craft.part(u, k));
                }
            }
        }
    }

    private static void part() {
        Check.sentence("Promise 8",
            "IndexOutOfBoundsException when there is no such unit; then NoSuchElementException when it has "
            + "no such part", () -> {
            SmallCraft craft = Check.flying(AHEAD);
            for (int unit : new int[] {-1, 3, 20, Integer.MIN_VALUE, Integer.MAX_VALUE}) {
                Check.fails("part of unit " + unit, OUT, () -> craft.part(unit, 0));
                Check.fails("no such part of unit " + unit, OUT, () -> craft.part(unit, 99));
            }
            for (int what : new int[] {-1, 65, Integer.MIN_VALUE, Integer.MAX_VALUE}) {
                Check.fails("part " + what, MISSING, () -> craft.part(0, what));
            }
            Check.row("the last unit", Check.parts(craft, 2, 0, 1, 64), 7, 2, craft.part(2, 64));
            Check.fails("without units", OUT, () -> new SmallCraft().part(0, 0));
            whoHas(FIRST_BOOK, FIRST_PARTS);
            whoHas(SECOND_BOOK, SECOND_PARTS);
        });
        Check.sentence("Promise 8",
            "(every: of SENSORS and BEACONS; axis: of GYROS and ACTUATORS; most: of WHEELS and SOURCES)", () -> {
            SmallCraft craft = Check.flying(FIRST_BOOK);
            Check.row("every", new int[] {craft.part(6, 31), craft.part(8, 31), craft.part(16, 31)}, 2, 3,
                10 + craft.part(16, 49) % 7);
            Check.fails("every of a radio", MISSING, () -> craft.part(15, 31));
            Check.row("axis", new int[] {craft.part(6, 35), craft.part(7, 35), craft.part(11, 35), craft.part(12, 35),
                craft.part(13, 35), craft.part(14, 35)}, 1, 2, 1, 2, 1, 1);
            Check.fails("axis of a suneye", MISSING, () -> craft.part(8, 35));
            Check.row("most", new int[] {craft.part(11, 43), craft.part(17, 43), craft.part(18, 43), craft.part(19, 43)},
                200 + craft.part(11, 2), 90, 90, 90);
            Check.fails("most of a coil", MISSING, () -> craft.part(12, 43));
        });
        Check.sentence("Terms II",
            "PROBE, CAMERA and JET have a part of their own called of; THERMO, GENERATOR likewise.", () -> {
            SmallCraft craft = Check.flying(FIRST_BOOK);
            SmallCraft others = Check.flying("tank a 9;tank b 9;thermo c 9 1 0;probe d 9 9 2;jet e 9 0 1;reactor f 9 1;recorder g 20;camera h 9 9 6;");
            Check.row("of units behind the first", new int[] {others.part(2, 27), others.part(3, 27), others.part(4,
                27), others.part(5, 27),
                others.part(7, 27)}, 1, 2, 1, 1, 6);
            Check.row("of", new int[] {craft.part(5, 27), craft.part(9, 27), craft.part(10, 27), craft.part(13, 27),
                craft.part(14, 27), craft.part(19, 27)}, 0, 0, 1, 0, 0, 0);
            for (int unit : new int[] {0, 1, 2, 3, 4, 6, 7, 8, 11, 12, 15, 16, 17, 18}) {
                Check.fails("of of unit " + unit, MISSING, () -> craft.part(unit, 27));
            }
        });
    }

    private static void ask() {
        Check.sentence("Promise 9", "4 CHANNELS (of SENSORS), 5 PUSH (of ACTUATORS).", () -> {
            SmallCraft craft = Check.flying(FIRST_BOOK);
            for (int unit = 0; unit < 20; unit++) {
                int u = unit;
                if (unit >= 6 && unit <= 10) {
                    Check.due("channels of unit " + u, craft.ask(u, 4) > 0, true);
                } else {
                    Check.fails("channels of unit " + u, MISSING, () -> craft.ask(u, 4));
                }
                if (unit >= 11 && unit <= 14) {
                    Check.due("push of unit " + u, craft.ask(u, 5) > 0, true);
                } else {
                    Check.fails("push of unit " + u, MISSING, () -> craft.ask(u, 5));
                }
            }
        });
        Check.sentence("Promise 9",
            "IndexOutOfBoundsException when there is no such unit; then NoSuchElementException when no "
            + "layer of it tells that.", () -> {
            SmallCraft craft = Check.flying(AHEAD);
            for (int unit : new int[] {-1, 3, 20, Integer.MIN_VALUE, Integer.MAX_VALUE}) {
                Check.fails("ask of unit " + unit, OUT, () -> craft.ask(unit, 0));
                Check.fails("no such question of unit " + unit, OUT, () -> craft.ask(unit, 9));
            }
            for (int question : new int[] {-1, 4, 5, 6, Integer.MIN_VALUE, Integer.MAX_VALUE}) {
                Check.fails("question " + question, MISSING, () -> craft.ask(0, question));
            }
            Check.row("all units answer these", new int[] {craft.ask(2, 0), craft.ask(2, 1), craft.ask(2, 2),
                craft.ask(2, 3)},
                6, 1, 11, 10);
            Check.fails("without units", OUT, () -> new SmallCraft().ask(0, 0));
        });
    }

    private static void note() {
        Check.sentence("Promise 10", "Of the i-th NOTE since load(), from 0 on (the first 100 are kept)", () -> {
            SmallCraft craft = Check.flying("cellpack c 9 1;");
            for (int i = 1; i <= 24; i++) {
                craft.command(4, 0, 0);
            }
            Check.due("a hundred", craft.craft(15), 100);
            Check.row("the last of them", new int[] {craft.note(99, 0), craft.note(99, 1)}, 0, 3);
            Check.fails("note 100", MISSING, () -> craft.note(100, 0));
            int last = craft.note(99, 2);
            int first = craft.note(0, 2);
            craft.command(4, 0, 0);
            Check.due("more than are kept", craft.craft(15), 104);
            Check.fails("note 100 is not kept", MISSING, () -> craft.note(100, 0));
            Check.fails("note 103 is not kept", MISSING, () -> craft.note(103, 0));
            Check.row("those ahead stay", new int[] {craft.note(0, 2), craft.note(99, 2)}, first, last);
            Check.load(craft, "tank t 9;");
            Check.row("since load()", new int[] {craft.craft(15), craft.note(2, 1)}, 3, 4);
            Check.fails("note 3 was one of the book ahead", MISSING, () -> craft.note(3, 0));
        });
        Check.sentence("Promise 10", "NoSuchElementException when there is none such, or for another what.", () -> {
            SmallCraft craft = Check.flying("tank t 9;");
            for (int i : new int[] {-1, 3, 99, 100, Integer.MIN_VALUE, Integer.MAX_VALUE}) {
                Check.fails("note " + i, MISSING, () -> craft.note(i, 0));
            }
            for (int what : new int[] {-1, 3, Integer.MIN_VALUE, Integer.MAX_VALUE}) {
                Check.fails("what " + what, MISSING, () -> craft.note(0, what));
                Check.fails("what " + what + " of the last", MISSING, () -> craft.note(2, what));
            }
            Check.row("the last", new int[] {craft.note(2, 0), craft.note(2, 1), craft.note(2, 2)}, 0, 4, 0);
            Check.fails("without units", MISSING, () -> new SmallCraft().note(0, 0));
        });
    }

    private static void at() {
        Check.sentence("Promise 11",
            "The unit that has an address: base up to base + width - 1 (units that are there; of several "
            + "the one with the greatest base); NONE.", () -> {
            SmallCraft craft = Check.flying("tank a 9;cellpack c 9 1;tank b 9;");
            int[] got = new int[9];
            for (int k = 0; k < 9; k++) {
                got[k] = craft.at(k - 1);
            }
            Check.row("addresses -1 .. 7", got, -1, 0, 1, 1, 1, 1, 1, 2, -1);
            Check.row("far away", new int[] {craft.at(Integer.MIN_VALUE), craft.at(Integer.MAX_VALUE)}, -1, -1);
            craft.command(4, 1, 0);
            for (int k = 0; k < 9; k++) {
                got[k] = craft.at(k);
            }
            Check.row("the old addresses are no one's", got, 0, -1, -1, -1, -1, -1, 2, 1, 1);
            Check.row("up to the last one", new int[] {craft.at(11), craft.at(12)}, 1, -1);
            Check.load(craft, "tank a 9;");
            Check.row("units that are there", new int[] {craft.at(0), craft.at(1), craft.at(7)}, 0, -1, -1);
            craft.load(0);
            Check.due("without units", craft.at(0), -1);
        });
    }

    private static void name() {
        Check.sentence("Promise 12", "Letter k of a unit's NAME; NONE behind its end.", () -> {
            SmallCraft craft = Check.flying("tank a 5;tank abcdefgh 5;tank zz9 5;");
            int[] got = new int[10];
            for (int k = 0; k < 10; k++) {
                got[k] = craft.name(1, k);
            }
            Check.row("eight letters", got, 'a', 'b', 'c', 'd', 'e', 'f', 'g', 'h', -1, -1);
            Check.row("one letter", new int[] {craft.name(0, 0), craft.name(0, 1), craft.name(0, 7)}, 'a', -1, -1);
            Check.row("three", new int[] {craft.name(2, 2), craft.name(2, 3)}, '9', -1);
            for (int k : new int[] {8, 31, 32, 64, 1 << 29, Integer.MAX_VALUE}) {
                Check.due("letter " + k, craft.name(1, k), -1);
            }
            Check.load(craft, "tank b 5;");
            Check.row("nothing of the book ahead", new int[] {craft.name(0, 0), craft.name(0, 1)}, 'b', -1);
        });
        Check.sentence("Promise 12", "IndexOutOfBoundsException when there is no such unit, or k is below 0.", () -> {
            SmallCraft craft = Check.flying("tank a 5;tank abcdefgh 5;");
            for (int unit : new int[] {-1, 2, 20, Integer.MIN_VALUE, Integer.MAX_VALUE}) {
                Check.fails("unit " + unit, OUT, () -> craft.name(unit, 0));
                Check.fails("letter -1 of unit " + unit, OUT, () -> craft.name(unit, -1));
            }
            Check.fails("letter -1", OUT, () -> craft.name(1, -1));
            Check.fails("the least letter", OUT, () -> craft.name(1, Integer.MIN_VALUE));
            Check.fails("without units", OUT, () -> new SmallCraft().name(0, 0));
        });
    }

    public static void main(String[] args) {
        storeNumbers();
        loadNumbers();
        actuatorNumbers();
        sourceAndLinkNumbers();
        partsUntilTheyCome();
        restsOfDraw();
        otherRests();
        stubborn();
        startedAgain();
        part();
        ask();
        note();
        at();
        name();
        Check.end();
    }
}
