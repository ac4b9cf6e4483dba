/** The edges that "Terms" III (a flight) and promises 6, 13, 14 and 16 name, by sentence. */
public final class FlightEdgesTest {
    private static final int LEVEL = 10;
    private static final int ON = 22;
    private static final int READING = 32;
    private static final int SHOTS = 40;
    private static final int SPEED = 44;
    private static final int HEAT = 62;
    private static final int BROKEN = 63;

    /** Gives up to 36 a tick, 3000 in all, and is so heavy that no cold breaks it. */
    private static final String STORE = "cellpack c0 2000 8;cellpack c1 2000 8;";

    /** So many units of a kind behind others; their names are x0, x1, .. */
    private static String many(String ahead, int count, String kind, String numbers) {
        StringBuilder book = new StringBuilder(ahead);
        for (int i = 0; i < count; i++) {
            book.append(kind).append(" x").append(i).append(' ').append(numbers).append(';');
        }
        return book.toString();
    }

    private static int[] row(SmallCraft craft, int from, int count, int what) {
        int[] row = new int[count];
        for (int i = 0; i < count; i++) {
            row[i] = craft.part(from + i, what);
        }
        return row;
    }

    private static int[] from(int least, int greatest) {
        int[] row = new int[greatest - least + 1];
        for (int i = 0; i < row.length; i++) {
            row[i] = least + i;
        }
        return row;
    }

    private static SmallCraft steered(String book, int mode, int axis, int aim, int... on) {
        SmallCraft craft = Check.flying(book, on);
        craft.command(2, mode, 0);
        craft.command(3, axis, aim);
        return craft;
    }

    // ---- I. Numbers
    private static void numbers() {
        Check.sentence("Terms I", "/ is towards 0", () -> {
            SmallCraft craft = steered("coil k 1 1;panel p 200 0;", 1, 1, 1800, 0);
            craft.run(1);
            Check.row("-1 / 4 of a rate", Check.crafts(craft, 4, 7), 0, -1);
            SmallCraft wheel = steered("wheel w 1 1;panel p 200 0;", 1, 1, 3600 - 15, 0);
            wheel.run(1);
            Check.row("-15 / 16 of an angle", new int[] {wheel.part(0, SPEED), wheel.craft(7)}, 0, 0);
            SmallCraft more = steered("wheel w 1 1;panel p 200 0;", 1, 1, 3600 - 31, 0);
            more.run(1);
            Check.row("-31 / 16 of an angle", new int[] {more.part(0, SPEED), more.craft(7)}, -1, -1);
        });
        Check.sentence("Terms I", "x MOD y is x less the greatest multiple of y that is not above x", () -> {
            SmallCraft craft = steered("wheel w 1 1;panel p 200 0;", 1, 1, 1800, 0);
            craft.run(4);
            Check.row("-2 / 4", Check.crafts(craft, 4, 7), 0, -2);
            craft.run(1);
            Check.row("0 - 1 MOD 3600", Check.crafts(craft, 4, 7), 3599, -4);
        });
        Check.sentence("Terms I", "LIMIT(x, a, b) is x, but a if it is below a, b if it is above b.", () -> {
            int[] aims = {0, 16, 32, 48, 3600 - 16, 3600 - 32, 3600 - 48};
            int[] speeds = {0, 1, 2, 2, -1, -2, -2};
            for (int k = 0; k < aims.length; k++) {
                SmallCraft craft = steered("wheel w 1 1;panel p 200 0;", 1, 1, aims[k], 0);
                craft.run(1);
                Check.due("a wheel of push 2, aim " + aims[k], craft.part(0, SPEED), speeds[k]);
            }
        });
        Check.sentence("Terms I",
            "OFF(a, b) is the number from -1800 to 1799 that is b - a but for a multiple of 3600.", () -> {
            int[] aims = {1799, 1800, 1801};
            int[] speeds = {2, -2, -2};
            for (int k = 0; k < aims.length; k++) {
                SmallCraft craft = steered("wheel w 1 1;panel p 200 0;", 1, 1, aims[k], 0);
                craft.run(1);
                Check.due("aim " + aims[k], craft.part(0, SPEED), speeds[k]);
            }
            SmallCraft craft = steered("wheel w 1 1;panel p 200 0;", 1, 1, 1800, 0);
            craft.run(8);
            Check.row("G1 and R1 ahead of tick 8", Check.crafts(craft, 4, 7), 3596, -4);
            craft.command(3, 1, 12);
            craft.run(1);
            Check.due("12 - 3596 is 16: one faster", craft.craft(7), -3);
        });
    }

    // ---- III. Light
    private static void load() {
        Check.sentence("Terms III",
            "At load(): TICK 0 is next; angles G0, G1, G2 (0 .. 3599) 0, rates R0, R1, R2 0, aims 0; MODE "
            + "0; each unit's HEAT 200, none BROKEN; a plan without items.", () -> {
            SmallCraft craft = steered(many("panel p 200 0;", 3, "wheel", "1 1"), 1, 1, 1000, 1, 2, 3);
            craft.command(3, 0, 77);
            craft.command(3, 2, 78);
            Check.plan(craft, "each 1 mode 2;");
            craft.run(900);
            Check.due("a unit is broken", craft.part(0, BROKEN), 1);
            Check.load(craft, "panel p 200 0;tank t 1;");
            Check.row("all of it", Check.crafts(craft, 1, 2, 3, 4, 5, 6, 7, 8, 9, 10, 11, 24), 0, 0, 0, 0, 0, 0, 0, 0,
                0, 0, 0, 0);
            Check.row("heat, broken", new int[] {craft.part(0, HEAT), craft.part(1, HEAT), craft.part(0, BROKEN),
                craft.part(1, BROKEN)}, 200, 200, 0, 0);
            Check.due("no item", craft.item(0, 0), -1);
            craft.run(1);
            Check.row("tick 0: light, R0, mode", Check.crafts(craft, 1, 25, 6, 2), 1, 100, 1, 0);
        });
        Check.sentence("Terms III", "A LOAD is ON or not (its part on, 1 or 0).", () -> {
            SmallCraft craft = Check.flying("heater h 1;panel p 200 0;");
            Check.due("at first", craft.part(0, ON), 0);
            craft.command(0, 0, 0);
            Check.due("on", craft.part(0, ON), 1);
            craft.command(0, 0, 0);
            Check.due("on again", craft.part(0, ON), 1);
            craft.command(1, 0, 0);
            craft.command(1, 0, 0);
            Check.due("off", craft.part(0, ON), 0);
        });
    }

    private static void light() {
        Check.sentence("Terms III, step 1",
            "with q = t MOD 600: 100 up to q 339; 100 - 5 * (q - 339) up to 359; 0 up to 579; then 5 * (q - "
            + "579).", () -> {
            SmallCraft craft = Check.flying("tank t 5;");
            int[] ticks = {0, 1, 338, 339, 340, 341, 358, 359, 360, 361, 578, 579, 580, 581, 598, 599, 600, 601, 939,
                940, 1199, 1200};
            int[] lights = {100, 100, 100, 100, 95, 90, 5, 0, 0, 0, 0, 0, 5, 10, 95, 100, 100, 100, 100, 95, 100, 100};
            for (int k = 0; k < ticks.length; k++) {
                Check.until(craft, ticks[k] + 1);
                Check.due("light of tick " + ticks[k], craft.craft(25), lights[k]);
            }
        });
        Check.sentence("Terms III, step 1", "IN VIEW is q from 100 to 219.", () -> {
            SmallCraft craft = Check.flying(STORE + "recorder r 2000;radio d 1 1;", 3);
            craft.run(100);
            Check.due("up to tick 99", craft.craft(20), 0);
            craft.run(1);
            Check.due("tick 100", craft.craft(20), 1);
            craft.command(1, 3, 0);
            craft.run(118);
            craft.command(0, 3, 0);
            craft.run(1);
            Check.row("tick 219", Check.crafts(craft, 1, 20), 220, 2);
            craft.run(1);
            Check.due("tick 220", craft.craft(20), 2);
            Check.until(craft, 700);
            Check.row("up to tick 699", new int[] {craft.craft(20), craft.part(3, ON)}, 2, 1);
            craft.run(1);
            Check.due("tick 700", craft.craft(20), 3);
        });
    }

    // ---- III. Readings
    private static void readings() {
        Check.sentence("Terms III, step 3",
            "each SENSOR that is ON, if t MOD every is 0: GYRO: reading = R(axis) + drift.", () -> {
            SmallCraft craft = Check.flying("panel p 200 0;gyro a 1 50 0;gyro b 1 1 0;gyro c 1 7 0;", 1, 2);
            int[] drifts = row(craft, 1, 3, 33);
            Check.row("drifts", drifts, 2, -2, 1);
            craft.run(1);
            Check.row("tick 0", row(craft, 1, 2, READING), 0 + 2, 0 - 2);
            craft.run(1);
            Check.row("tick 1", row(craft, 1, 2, READING), 0 + 2, 1 - 2);
            craft.run(48);
            Check.row("tick 49", row(craft, 1, 2, READING), 0 + 2, 1 - 2);
            craft.run(1);
            Check.row("tick 50", row(craft, 1, 2, READING), 1 + 2, 1 - 2);
            Check.due("one that is off", craft.part(3, READING), 0);
            craft.command(1, 2, 0);
            craft.run(10);
            Check.due("off since", craft.part(2, READING), 1 - 2);
        });
        Check.sentence("Terms III, step 3",
            "e + noise if L is above 0 and the amount of e is below wide, else 9999.", () -> {
            SmallCraft craft = Check.flying("suneye e 1 1;" + STORE, 0);
            Check.row("noise, wide", Check.parts(craft, 0, 29, 37), 3, 720);
            craft.run(1);
            Check.due("tick 0: 0 + 3", craft.part(0, READING), 3);
            Check.until(craft, 359);
            int angle = craft.craft(3);
            Check.row("tick 358, light 5", new int[] {craft.craft(25), craft.part(0, READING)}, 5, 3 - (angle - 2));
            craft.run(1);
            Check.row("tick 359, light 0", new int[] {craft.craft(25), craft.part(0, READING)}, 0, 9999);
            Check.until(craft, 580);
            Check.row("tick 579, light 0", new int[] {craft.craft(25), craft.part(0, READING)}, 0, 9999);
            craft.run(1);
            Check.row("tick 580, light 5", new int[] {craft.craft(25), craft.part(0, READING)}, 5, 3 - 690);
            Check.until(craft, 589);
            Check.due("ahead of tick 589", craft.craft(3), 717);
            craft.run(1);
            Check.row("717 is below 720", new int[] {craft.part(0, READING), craft.craft(3)}, 3 - 717, 720);
            craft.run(1);
            Check.row("720 is not", new int[] {craft.part(0, READING), craft.craft(3)}, 9999, 723);
            craft.run(1);
            Check.due("723 is not", craft.part(0, READING), 9999);
        });
        Check.sentence("Terms III, step 3", "SUNEYE: with e = OFF(G0, 0)", () -> {
            SmallCraft craft = steered("suneye e 1 1;" + many("panel p 200 0;", 3, "wheel", "1 0"), 1, 0, 1800, 0, 2, 3, 4);
            craft.run(20);
            int angle = craft.craft(3);
            Check.due("the craft has turned below 0", angle > 3000, true);
            craft.run(1);
            Check.due("an e above 0", craft.part(0, READING), 3600 - angle + 3);
        });
    }

    private static void pictures() {
        Check.sentence("Terms III, step 3", "CAMERA: reading = (t + lens * L) MOD 256", () -> {
            SmallCraft craft = Check.flying("recorder r 2000;panel p 200 0;camera m 4 1 0;", 2);
            Check.due("lens", craft.part(2, 39), 5);
            for (int t : new int[] {0, 1, 11, 12, 13, 267, 268, 269}) {
                Check.until(craft, t + 1);
                Check.due("tick " + t, craft.part(2, READING), (t + 500) % 256);
            }
        });
        Check.sentence("Terms III, step 3",
            "if unit of is not BROKEN and has room for lens bytes more than its level", () -> {
            int[] rooms = {20, 24, 25, 26};
            int[] levels = {20, 20, 25, 25};
            for (int k = 0; k < rooms.length; k++) {
                SmallCraft craft = Check.flying("recorder r " + rooms[k] + ";panel p 200 0;camera m 4 1 0;", 2);
                craft.run(20);
                Check.row("room " + rooms[k], new int[] {craft.part(0, LEVEL), craft.part(2, SHOTS), craft.kept(0,
                    levels[k])},
                    levels[k], levels[k] / 5, -1);
                Check.due("the reading goes on", craft.part(2, READING), (19 + 500) % 256);
            }
            SmallCraft cold = Check.flying("recorder r 20;tank a 1;tank b 1;tank c 1;camera m 4 1 0;" + STORE);
            cold.run(520);
            Check.due("broken by cold", cold.part(0, BROKEN), 1);
            cold.command(4, 4, 0);
            cold.command(5, 0, 0);
            Check.on(cold, 4);
            cold.run(1);
            Check.row("no picture for a broken one", new int[] {cold.part(0, LEVEL), cold.part(4, SHOTS), cold.part(4,
                READING)},
                0, 0, 520 % 256);
            cold.command(4, 0, 0);
            cold.run(1);
            Check.row("a picture for a new one", new int[] {cold.part(0, LEVEL) > 0 ? 1 : 0, cold.part(4, SHOTS)}, 1, 1);
        });
        Check.sentence("Terms III, step 3",
            "these come behind those that it keeps: reading, reading + 1, .. (MOD 256)", () -> {
            SmallCraft craft = Check.flying("recorder r 20;panel p 200 0;camera m 4 10 0;", 2);
            craft.run(11);
            int[] got = new int[11];
            for (int i = 0; i < got.length; i++) {
                got[i] = craft.kept(0, i);
            }
            Check.row("bytes", got, 244, 245, 246, 247, 248, 254, 255, 0, 1, 2, -1);
        });
        Check.sentence("Promise 13",
            "The i-th byte, from the first on, that a RECORDER keeps; NONE if there is none such.", () -> {
            SmallCraft craft = Check.flying("recorder r 20;tank t 9;");
            Check.due("none yet", craft.kept(0, 0), -1);
            craft.run(25);
            for (int i : new int[] {-1, 12, 19, 20, 2000, Integer.MIN_VALUE, Integer.MAX_VALUE}) {
                Check.due("byte " + i, craft.kept(0, i), -1);
            }
            Check.row("the first and the last", new int[] {craft.kept(0, 0), craft.kept(0, 11) >= 0 ? 1 : 0}, 165, 1);
            craft.command(5, 0, 0);
            Check.row("wiped", new int[] {craft.kept(0, 0), craft.kept(0, 11)}, -1, -1);
        });
        Check.sentence("Promise 13",
            "IndexOutOfBoundsException when there is no such unit; then IllegalArgumentException when it is "
            + "no RECORDER.", () -> {
            SmallCraft craft = Check.flying("recorder r 20;tank t 9;battery b 9;heater h 9;");
            for (int unit : new int[] {-1, 4, 20, Integer.MIN_VALUE, Integer.MAX_VALUE}) {
                Check.fails("unit " + unit, IndexOutOfBoundsException.class, () -> craft.kept(unit, 0));
            }
            for (int unit = 1; unit < 4; unit++) {
                int u = unit;
                Check.fails("unit " + u, IllegalArgumentException.class, () -> craft.kept(u, 0));
                Check.fails("unit " + u + ", byte -1", IllegalArgumentException.class, () -> craft.kept(u, -1));
            }
            Check.fails("without units", IndexOutOfBoundsException.class, () -> new SmallCraft().kept(0, 0));
        });
    }

    // ---- III. Steering
    private static void modes() {
        Check.sentence("Terms III, step 4", "MODE 3: each LOAD with line 2 that is ON and no THERMO goes OFF.", () -> {
            SmallCraft craft = Check.flying(
                "tank t 1;heater a 1;heater b 1;heater c 1;heater d 1;thermo e 1 0 200;panel p 200 0;", 1, 2, 3, 4, 5);
            Check.row("lines", row(craft, 1, 5, 21), 1, 2, 0, 1, 2);
            craft.run(1);
            Check.row("not in mode 0", row(craft, 1, 5, ON), 1, 1, 1, 1, 1);
            craft.command(2, 2, 0);
            craft.run(1);
            Check.row("not in mode 2", row(craft, 1, 5, ON), 1, 1, 1, 1, 1);
            craft.command(2, 3, 0);
            craft.run(1);
            Check.row("in mode 3", row(craft, 1, 5, ON), 1, 0, 1, 1, 1);
            craft.command(0, 2, 0);
            craft.run(1);
            Check.due("in each tick", craft.part(2, ON), 0);
            SmallCraft first = Check.flying("heater h 1;panel p 200 0;");
            first.command(4, 0, 0);
            Check.on(first, 0);
            first.command(2, 3, 0);
            Check.row("line and on of the first unit", Check.parts(first, 0, 21, ON), 2, 1);
            first.run(1);
            Check.due("the first unit", first.part(0, ON), 0);
        });
        Check.sentence("Terms III, step 4", "MODES 1, 2, if t MOD 4 is 0, for axis x = 0, 1, 2", () -> {
            for (int axis = 0; axis <= 2; axis++) {
                SmallCraft craft = steered("wheel w 1 " + axis + ";panel p 200 0;", 1, axis, 1000, 0);
                int[] got = new int[9];
                for (int t = 0; t < got.length; t++) {
                    craft.run(1);
                    got[t] = craft.part(0, SPEED);
                }
                Check.row("speeds", got, 2, 2, 2, 2, 4, 4, 4, 4, 6);
            }
            for (int mode : new int[] {0, 3}) {
                SmallCraft craft = steered("wheel w 1 1;panel p 200 0;", mode, 1, 1000, 0);
                craft.run(9);
                Check.due("mode " + mode, craft.part(0, SPEED), 0);
            }
            SmallCraft late = Check.flying("wheel w 1 0;panel p 200 0;", 0);
            late.run(1);
            late.command(2, 2, 0);
            late.run(3);
            Check.due("ticks 1 to 3", late.part(0, SPEED), 0);
            late.run(1);
            Check.due("tick 4", late.part(0, SPEED), 2);
        });
        Check.sentence("Terms III, step 4",
            "for x = 0 the reading of the first SUNEYE that is ON (200 without one, or if it is 9999)", () -> {
            SmallCraft none = steered(many("suneye e 1 1;panel p 200 0;", 7, "wheel", "1 0"), 2, 0, 1800, from(2, 8));
            none.run(1);
            Check.row("200 / 16 is 12, with an eye that is off", row(none, 2, 7, SPEED), 2, 2, 2, 2, 2, 2, 0);
            SmallCraft dark = Check.flying(many(STORE + "suneye e 1 1;", 7, "wheel", "1 0"));
            dark.run(364);
            Check.on(dark, from(2, 9));
            dark.command(2, 2, 0);
            dark.run(1);
            Check.row("200 / 16 in the dark", row(dark, 2, 1, READING), 9999);
            Check.row("its wheels", row(dark, 3, 7, SPEED), 2, 2, 2, 2, 2, 2, 0);
            SmallCraft seen = steered(many("suneye e 1 50;panel p 200 0;", 7, "wheel", "1 0"), 2, 0, 1800, from(2, 8));
            seen.run(1);
            Check.on(seen, 0);
            seen.run(4);
            Check.row("a reading of 0, when none was taken yet", new int[] {seen.part(0, READING), seen.craft(6)}, 0, 13);
        });
        Check.sentence("Terms III, step 4", "in MODE 2 OFF(Gx, 0)", () -> {
            for (int axis = 1; axis <= 2; axis++) {
                SmallCraft slow = steered("panel p 200 0;wheel v 1 " + axis + ";wheel w 1 " + axis + ";", 1, axis,
                    1000, 1, 2);
                slow.run(1);
                slow.command(2, 0, 0);
                slow.run(11);
                Check.row("angle 12", Check.crafts(slow, 3 + axis, 6 + axis), 12, 4);
                slow.command(2, 2, 0);
                slow.run(1);
                Check.row("-12 / 16", Check.crafts(slow, 3 + axis, 6 + axis), 13, 4);
                slow.run(3);
                Check.row("angle 16", Check.crafts(slow, 3 + axis, 6 + axis), 16, 4);
                slow.run(1);
                Check.row("-16 / 16", Check.crafts(slow, 3 + axis, 6 + axis), 16, 3);
            }
            SmallCraft craft = steered("wheel w 1 1;panel p 200 0;", 1, 1, 1000, 0);
            craft.run(5);
            Check.row("G1, R1", Check.crafts(craft, 4, 7), 1, 4);
            craft.run(20);
            int angle = craft.craft(4);
            Check.due("G1 beyond 15", angle > 15, true);
            int rate = craft.craft(7);
            craft.command(2, 2, 0);
            craft.run(4);
            Check.due("back towards 0", craft.craft(7), rate - Math.min(2, (angle + 3 * rate / 4) / 16));
        });
    }

    private static void wishes() {
        Check.sentence("Terms III, step 4", "w = LIMIT(e / 16 - 2 * r, -30, 30)", () -> {
            SmallCraft craft = steered(many("panel p 200 0;", 17, "wheel", "1 1"), 1, 1, 1000, from(1, 17));
            craft.run(1);
            Check.row("15 wheels of 2 make 30", row(craft, 1, 17, SPEED), 2, 2, 2, 2, 2, 2, 2, 2, 2, 2, 2, 2, 2, 2, 2, 0, 0);
            Check.due("R1", craft.craft(7), 30);
            SmallCraft back = steered(many("panel p 200 0;", 17, "wheel", "1 1"), 1, 1, 2600, from(1, 17));
            back.run(1);
            Check.row("the other way", row(back, 1, 17, SPEED), -2, -2, -2, -2, -2, -2, -2, -2, -2, -2, -2, -2, -2,
                -2, -2, 0, 0);
            Check.due("R1", back.craft(7), -30);
            int[] aims = {463, 464, 479, 480, 495, 496};
            int[] rates = {28, 29, 29, 30, 30, 30};
            for (int k = 0; k < aims.length; k++) {
                SmallCraft near = steered(many("panel p 200 0;", 17, "wheel", "1 1"), 1, 1, aims[k], from(1, 17));
                near.run(1);
                Check.due("aim " + aims[k], near.craft(7), rates[k]);
            }
        });
        Check.sentence("Terms III, step 4",
            "r being the reading of the first GYRO that is ON with that axis (0 without)", () -> {
            // The gyros' drifts are -2 (unit 1), 1 (unit 2), -3 (unit 3): each tells its own w at tick 0.
            String book = many("panel p 200 0;gyro a 1 1 2;gyro b 1 1 1;gyro c 1 1 1;", 9, "wheel", "1 1");
            int[] drifts = row(Check.flying(book), 1, 3, 33);
            int[] wheels = from(4, 12);
            SmallCraft none = steered(book, 1, 1, 64, wheels);
            none.run(1);
            Check.due("without", none.craft(7), 4);
            SmallCraft other = steered(book, 1, 1, 64, wheels);
            Check.on(other, 1);
            other.run(1);
            Check.due("one of another axis", other.craft(7), 4);
            SmallCraft second = steered(book, 1, 1, 64, wheels);
            Check.on(second, 3);
            second.run(1);
            Check.due("the first that is on", second.craft(7), 4 - 2 * drifts[2]);
            SmallCraft both = steered(book, 1, 1, 64, wheels);
            Check.on(both, 1, 2, 3);
            both.run(1);
            Check.due("the first of two", both.craft(7), 4 - 2 * drifts[1]);
            Check.due("they differ", drifts[1] != drifts[2] && drifts[1] != 0 && drifts[2] != 0, true);
            // The first unit of all: its drift is 0 at load, and -3 + (6 MOD 7) when it is started again.
            SmallCraft first = steered(many("gyro a 1 1 1;panel p 200 0;", 9, "wheel", "1 1"), 1, 1, 160, from(2, 10));
            first.command(4, 0, 0);
            int drift = first.craft(12) % 7 - 3;
            Check.row("its drift", Check.parts(first, 0, 33), drift);
            Check.on(first, 0);
            first.run(1);
            Check.row("the first unit", new int[] {first.craft(7), drift != 0 ? 1 : 0}, 10 - 2 * drift, 1);
        });
        Check.sentence("Terms III, step 4",
            "c = LIMIT(speed + LIMIT(w, 0 - push, push), 0 - most, most) - speed; speed and Rx grow by c, w "
            + "becomes less by c.", () -> {
            SmallCraft craft = steered("wheel w 1 0;" + STORE + "wheel v 1 0;", 2, 0, 0, 0);
            Check.row("most", Check.parts(craft, 0, 42, 43), 2, 201);
            Check.until(craft, 397);
            Check.row("tick 396", row(craft, 0, 1, SPEED), 200);
            craft.run(4);
            Check.row("tick 400: one more, not two", row(craft, 0, 1, SPEED), 201);
            int rate = craft.craft(6);
            Check.due("the wheel and one for each 50 ticks", rate, 201 + 9);
            craft.command(4, 3, 0);
            Check.on(craft, 3);
            craft.run(4);
            Check.row("tick 404: full", row(craft, 0, 1, SPEED), 201);
            Check.row("only the other wheel turns it", new int[] {craft.part(3, SPEED), craft.craft(6) - rate}, 2, 2);
            SmallCraft two = steered(many("panel p 200 0;", 3, "wheel", "1 1"), 1, 1, 48, 1, 2, 3);
            two.run(1);
            Check.row("w of 3 is less by each c", row(two, 1, 3, SPEED), 2, 1, 0);
            Check.due("R1", two.craft(7), 3);
        });
        Check.sentence("Terms III, step 4", "0 - most, most) - speed", () -> {
            SmallCraft craft = steered("wheel w 1 1;" + STORE, 1, 1, 2600, 0);
            for (int k = 1; k <= 103; k++) {
                craft.command(3, 1, Math.floorMod(craft.craft(4) - 1000, 3600));
                craft.run(k == 1 ? 1 : 4);
                if (k >= 99) {
                    Check.due("step " + k, craft.part(0, SPEED), Math.max(-2 * k, -201));
                }
            }
            Check.due("its rate", craft.craft(7), -201);
        });
        Check.sentence("Terms III, step 4",
            "if t MOD 8 is 0: c = LIMIT(w, -1, 1) if push is above 0, else 0; Rx grows by c, w becomes less "
            + "by c.", () -> {
            int[] aims = {0, 15, 16, 32, 48, 1000, 3600 - 15, 3600 - 16, 3600 - 32, 2600};
            int[] rates = {0, 0, 1, 2, 2, 2, 0, -1, -2, -2};
            for (int k = 0; k < aims.length; k++) {
                SmallCraft craft = steered("coil k 1 1;coil l 1 1;coil m 1 2;panel p 200 0;", 1, 1, aims[k], 0, 1, 2);
                craft.run(1);
                Check.row("two coils, aim " + aims[k], Check.crafts(craft, 7, 8), rates[k], 0);
            }
            SmallCraft craft = steered("coil k 1 1;panel p 200 0;", 1, 1, 1000, 0);
            int[] ticks = {1, 5, 8, 9, 13, 16, 17};
            int[] due = {1, 1, 1, 2, 2, 2, 3};
            for (int k = 0; k < ticks.length; k++) {
                Check.until(craft, ticks[k]);
                Check.due("behind " + ticks[k] + " ticks", craft.craft(7), due[k]);
            }
            SmallCraft off = steered("coil k 1 1;coil l 1 1;panel p 200 0;", 1, 1, 1000, 1);
            off.run(1);
            Check.due("one of two is off", off.craft(7), 1);
            SmallCraft rest = steered("wheel w 1 1;coil k 1 1;panel p 200 0;", 1, 1, 32, 0, 1);
            rest.run(1);
            Check.due("the wheel has left nothing", rest.craft(7), 2);
        });
    }

    private static void jets() {
        // The wheel (unit 3) has most 208: a speed of 52 is a fourth of it. In mode 2 it gains 2 in each fourth tick.
        String wheel = "cellpack c 2000 8;tank t %s;tank u 9;wheel w 1 0;";
        Check.sentence("Terms III, step 4", "4 * the amount of its speed being above most", () -> {
            SmallCraft craft = steered(wheel.replace("%s", "50") + "jet j 1 0 1;", 2, 0, 0, 3, 4);
            Check.row("most, gas, push", new int[] {craft.part(3, 43), craft.part(4, 47), craft.part(4, 42)}, 208, 1, 4);
            craft.run(101);
            Check.row("52", new int[] {craft.part(3, SPEED), craft.part(4, SHOTS), craft.part(1, LEVEL)}, 52, 0, 50);
            craft.run(4);
            Check.row("54 less 4", new int[] {craft.part(3, SPEED), craft.part(4, SHOTS), craft.part(1, LEVEL)}, 50, 1, 49);
            craft.run(4);
            Check.row("52 again", new int[] {craft.part(3, SPEED), craft.part(4, SHOTS), craft.part(1, LEVEL)}, 52, 1, 49);
            SmallCraft back = steered("cellpack c 2000 8;tank t 50;tank u 9;wheel w 1 1;jet j 1 1 1;", 1, 1, 2600, 3, 4);
            for (int k = 1; k <= 26; k++) {
                back.command(3, 1, Math.floorMod(back.craft(4) - 1000, 3600));
                back.run(k == 1 ? 1 : 4);
            }
            Check.row("-52", new int[] {back.part(3, SPEED), back.part(4, SHOTS)}, -52, 0);
            back.command(3, 1, Math.floorMod(back.craft(4) - 1000, 3600));
            back.run(4);
            Check.row("-54 nearer to 0 by 5", new int[] {back.part(3, SPEED), back.part(4, SHOTS), back.craft(7)},
                -49, 1, -54);
        });
        Check.sentence("Terms III, step 4", "Then each WHEEL that is ON with that axis, 4 * the amount", () -> {
            // Wheel 0 has most 201: a speed of 50 is not above a fourth of it, 52 is.
            String book = "wheel w 1 0;cellpack c 2000 8;tank t 50;wheel v 1 1;jet j 1 0 2;jet k 1 1 2;";
            SmallCraft first = steered(book, 2, 0, 0, 0, 4, 5);
            first.run(97);
            Check.row("50", new int[] {first.part(0, SPEED), first.part(4, SHOTS)}, 50, 0);
            first.run(4);
            Check.row("the first unit, by the jet of its axis", new int[] {first.part(0, SPEED), first.part(4, SHOTS),
                first.part(5, SHOTS)}, 48, 1, 0);
            SmallCraft off = steered(book, 2, 0, 0, 0);
            off.run(121);
            Check.due("62", off.part(0, SPEED), 62);
            off.command(1, 0, 0);
            Check.on(off, 4, 5);
            off.run(8);
            Check.row("a wheel that is off", new int[] {off.part(0, SPEED), off.part(4, SHOTS), off.part(5, SHOTS)},
                62, 0, 0);
            Check.on(off, 0);
            off.run(4);
            Check.row("on again", new int[] {off.part(0, SPEED), off.part(4, SHOTS), off.part(5, SHOTS)}, 64 - 4, 1, 0);
        });
        Check.sentence("Terms III, step 4", "its tank is not BROKEN and has a level of its gas or more", () -> {
            int[] rooms = {1, 2, 3, 4, 5, 6};
            int[] shots = {0, 0, 1, 1, 1, 2};
            for (int k = 0; k < rooms.length; k++) {
                SmallCraft craft = steered(wheel.replace("%s", "" + rooms[k]) + "tank v 9;jet j 1 0 1;", 2, 0, 0, 3, 5);
                Check.due("gas", craft.part(5, 47), 3);
                craft.run(130);
                Check.row("room " + rooms[k], new int[] {craft.part(5, SHOTS), craft.part(1, LEVEL)}, shots[k],
                    rooms[k] - 3 * shots[k]);
            }
            SmallCraft cold = Check.flying("tank t 50;tank u 1;tank v 1;tank y 1;" + STORE + "wheel w 1 0;jet j 1 0 0;", 6, 7);
            cold.run(520);
            Check.row("the tank is broken, they are not", new int[] {cold.part(0, BROKEN), cold.part(6, BROKEN),
                cold.part(7, BROKEN)},
                1, 0, 0);
            Check.plan(cold, "each 1 mode 2;");
            cold.run(113);
            Check.row("no shot", new int[] {cold.part(6, SPEED) > 52 ? 1 : 0, cold.part(7, SHOTS), cold.part(0,
                LEVEL)}, 1, 0, 50);
            cold.command(4, 0, 0);
            cold.run(4);
            Check.row("a new tank: a shot", new int[] {cold.part(7, SHOTS), cold.part(0, LEVEL)}, 1, 50 - cold.part(7, 47));
        });
        Check.sentence("Terms III, step 4", "if it is a PULSER, t MOD beat is 0", () -> {
            SmallCraft craft = steered("cellpack c 2000 8;tank t 50;tank u 9;wheel w 1 0;finegyro f 1 1 0;pulser j 1 0 1;", 2, 0, 0, 3, 5);
            Check.row("gas, beat, push", Check.parts(craft, 5, 47, 48, 42), 2, 3, 9);
            int[] ticks = {105, 108, 109, 112, 113, 117, 120, 121};
            int[] speeds = {54, 54, 47, 47, 49, 51, 51, 44};
            for (int k = 0; k < ticks.length; k++) {
                Check.until(craft, ticks[k]);
                Check.due("behind " + ticks[k] + " ticks", craft.part(3, SPEED), speeds[k]);
            }
            Check.row("two shots", new int[] {craft.part(5, SHOTS), craft.part(1, LEVEL)}, 2, 46);
        });
        Check.sentence("Terms III, step 4", "by the first JET for which all of this is so, if there is one", () -> {
            String book = wheel.replace("%s", "50") + "jet a 1 1 1;jet b 1 0 2;jet d 1 0 1;jet e 1 0 1;";
            SmallCraft craft = steered(book, 2, 0, 0, 3, 4, 6, 7);
            craft.run(105);
            Check.row("not one of another axis, one that is off, a later one", row(craft, 4, 4, SHOTS), 0, 0, 1, 0);
            SmallCraft none = steered(book, 2, 0, 0, 3);
            none.run(105);
            Check.row("none", new int[] {none.part(3, SPEED), none.part(1, LEVEL), none.part(2, LEVEL)}, 54, 50, 9);
        });
        Check.sentence("Terms III, step 4",
            "the speed comes nearer to 0 by LIMIT(push, 0, its amount), the tank's level is less by gas, "
            + "shots grows by 1.", () -> {
            SmallCraft craft = steered("cellpack c 2000 8;tank t 50;tank u 9;wheel w 1 0;wheel x 1 0;jet j 1 0 1;", 2,
                0, 0, 3, 4, 5);
            int gas = craft.part(5, 47);
            craft.run(105);
            Check.row("both wheels in one tick", new int[] {craft.part(3, SPEED), craft.part(4, SPEED), craft.part(5, SHOTS),
                craft.part(1, LEVEL)}, 50, 50, 2, 50 - 2 * gas);
        });
    }

    private static void turning() {
        Check.sentence("Terms III, step 5", "R0 grows by 1 if t MOD 50 is 0", () -> {
            SmallCraft craft = Check.flying("tank t 1;");
            int[] ticks = {1, 2, 50, 51, 52, 100, 101, 150, 151};
            int[] rates = {1, 1, 1, 2, 2, 2, 3, 3, 4};
            for (int k = 0; k < ticks.length; k++) {
                Check.until(craft, ticks[k]);
                Check.row("behind " + ticks[k] + " ticks", Check.crafts(craft, 6, 7, 8), rates[k], 0, 0);
            }
        });
        Check.sentence("Terms III, step 5", "then each Rx = LIMIT(Rx, -400, 400)", () -> {
            SmallCraft craft = Check.flying("tank t 1;");
            Check.until(craft, 19950);
            Check.due("ahead of tick 19950", craft.craft(6), 399);
            craft.run(1);
            Check.due("tick 19950", craft.craft(6), 400);
            int angle = craft.craft(3);
            craft.run(50);
            Check.row("tick 20000", Check.crafts(craft, 3, 6), (angle + 50 * 100) % 3600, 400);
            for (int sign = -1; sign <= 1; sign += 2) {
                for (int axis = 1; axis <= 2; axis++) {
                    SmallCraft spun = steered(many("cellpack c 2000 8;", 16, "wheel", "1 " + axis), 1, axis, 0, from(1, 16));
                    for (int k = 1; k <= 15; k++) {
                        int from = spun.craft(3 + axis);
                        int before = Math.min(30 * (k - 1), 400);
                        int behind = Math.min(30 * k, 400);
                        spun.command(3, axis, Math.floorMod(from + sign * 1000, 3600));
                        spun.run(k == 1 ? 1 : 4);
                        Check.row("step " + k, Check.crafts(spun, 6 + axis, 3 + axis), sign * behind,
                            Math.floorMod(from + sign * (3 * (before / 4) + behind / 4), 3600));
                    }
                }
            }
        });
        Check.sentence("Terms III, step 5", "Gx = (Gx + Rx / 4) MOD 3600", () -> {
            SmallCraft craft = Check.flying("tank t 1;");
            int angle = 0;
            boolean wrapped = false;
            for (int t = 0; t < 3000; t++) {
                int more = angle + (t / 50 + 1) / 4;
                wrapped |= more >= 3600;
                angle = more % 3600;
                if (t % 100 == 99 || more >= 3600) {
                    Check.until(craft, t + 1);
                    Check.due("G0 of tick " + t, craft.craft(3), angle);
                }
            }
            Check.due("it went round", wrapped, true);
            SmallCraft back = steered("wheel w 1 2;panel p 200 0;", 1, 2, 1800, 0);
            back.run(6);
            Check.row("below 0", Check.crafts(back, 5, 8), 3598, -4);
        });
    }

    // ---- III. Power
    private static final int[] SHINE = {100, 99, 96, 91, 84, 75, 64, 51, 38, 25, 14, 6, 2, 0, 0, 0};

    private static void panels() {
        Check.sentence("Terms III, step 6",
            "F being the k-th (from 0) of 100 99 96 91 84 75 64 51 38 25 14 6 2 0 0 0, k = the amount of "
            + "OFF(G1, 900 * face) / 120", () -> {
            boolean[] met = new boolean[16];
            for (int face = 0; face <= 3; face++) {
                SmallCraft craft = steered(many("panel p 200 " + face + ";cellpack c 2000 8;", 8, "wheel", "1 1"), 1,
                    1, 1000, from(2, 9));
                craft.run(1);
                Check.row("R1 and G1", Check.crafts(craft, 7, 4), 16, 4);
                craft.command(2, 0, 0);
                for (int edge = 120; edge <= 1320; edge += 120) {
                    for (int angle = edge - 4; angle <= edge + 4; angle += 4) {
                        Check.until(craft, angle / 4);
                        int off = Math.abs(900 * face - angle);
                        int k = Math.min(off, 3600 - off) / 120;
                        met[k] = true;
                        Check.row("face " + face + ", k " + k, Check.crafts(craft, 4, 26), angle, 200 * SHINE[k] / 100);
                    }
                }
            }
            SmallCraft back = Check.flying("panel p 200 2;");
            back.run(1);
            met[15] = true;
            Check.row("-1800 / 120", Check.crafts(back, 4, 26), 0, 0);
            for (int k = 0; k < 16; k++) {
                Check.due("k " + k + " was met", met[k], true);
            }
            SmallCraft slow = steered("panel p 200 0;wheel v 1 1;wheel w 1 1;", 1, 1, 1000, 1, 2);
            slow.run(1);
            slow.command(2, 0, 0);
            Check.until(slow, 119);
            Check.row("119", Check.crafts(slow, 4, 26), 119, 200);
            slow.run(1);
            Check.row("120", Check.crafts(slow, 4, 26), 120, 198);
            int[] faces = {1, 2, 3};
            int[] angles = {60, 240, 59};
            int[] before = {102, 0, 102};
            int[] behind = {128, 4, 76};
            for (int i = 0; i < 3; i++) {
                SmallCraft other = steered("panel p 200 " + faces[i] + ";cellpack c 2000 8;wheel v 1 1;wheel w 1 1;",
                    1, 1, 1000, 2, 3);
                other.run(1);
                other.command(2, 0, 0);
                Check.until(other, angles[i]);
                Check.row("face " + faces[i], Check.crafts(other, 4, 26), angles[i], before[i]);
                other.run(1);
                Check.row("one more", Check.crafts(other, 4, 26), angles[i] + 1, behind[i]);
            }
        });
        Check.sentence("Terms III, step 6", "most * L / 100 * F / 100", () -> {
            SmallCraft craft = Check.flying("panel p 199 1;");
            int[] ticks = {0, 340, 345, 358, 359, 580};
            int[] due = {199 * 51 / 100, 189 * 51 / 100, 139 * 51 / 100, 9 * 51 / 100, 0, 9 * 51 / 100};
            for (int k = 0; k < 5; k++) {
                Check.until(craft, ticks[k] + 1);
                Check.due("tick " + ticks[k], craft.craft(26), due[k]);
            }
            SmallCraft least = Check.flying("panel p 1 1;");
            least.run(1);
            Check.due("the least one", least.craft(26), 0);
        });
        Check.sentence("Terms III, step 6",
            "a TRACKER: first at = (at + LIMIT(OFF(at, G1), 0 - step, step)) MOD 3600, then with OFF(G1, at)", () -> {
            SmallCraft craft = Check.flying("tracker p 100 3;");
            Check.due("at", craft.part(0, 56), 2720);
            craft.run(1);
            Check.row("k is 875 / 120", new int[] {craft.part(0, 56), craft.craft(26)}, 2725, 51);
            craft.run(7);
            Check.row("k is 840 / 120", new int[] {craft.part(0, 56), craft.craft(26)}, 2760, 51);
            craft.run(1);
            Check.row("k is 835 / 120", new int[] {craft.part(0, 56), craft.craft(26)}, 2765, 64);
            Check.until(craft, 175);
            Check.row("just ahead of 0", new int[] {craft.part(0, 56), craft.craft(26)}, 3595, 100);
            craft.run(1);
            Check.due("it comes round", craft.part(0, 56), 0);
            craft.run(1);
            Check.due("it stays", craft.part(0, 56), 0);
            SmallCraft back = steered("tracker p 100 0;cellpack c 2000 8;wheel v 1 1;wheel w 1 1;", 1, 1, 2600, 2, 3);
            back.run(1);
            back.command(2, 0, 0);
            Check.row("20 less 5", new int[] {back.part(0, 56), back.craft(4)}, 15, 3599);
            int[] at = new int[6];
            for (int k = 0; k < 6; k++) {
                back.run(1);
                at[k] = back.part(0, 56);
            }
            Check.row("then as near as G1", at, 10, 5, 0, 3595, 3594, 3593);
        });
    }

    private static void sources() {
        Check.sentence("Terms III, step 6",
            "GENERATOR: if its tank is not BROKEN and has a level above 0: most, and if t MOD 8 is 0 that "
            + "level is less by 1.", () -> {
            SmallCraft craft = Check.flying("tank t 2;reactor r 50 0;");
            int[] ticks = {1, 2, 8, 9, 10};
            int[] levels = {1, 1, 1, 0, 0};
            int[] supply = {50, 50, 50, 50, 0};
            for (int k = 0; k < ticks.length; k++) {
                Check.until(craft, ticks[k]);
                Check.row("behind " + ticks[k] + " ticks", new int[] {craft.part(0, LEVEL), craft.craft(26)},
                    levels[k], supply[k]);
            }
            SmallCraft two = Check.flying("tank t 1;reactor r 50 0;reactor s 70 0;");
            two.run(1);
            Check.row("the first one takes the last", new int[] {two.part(0, LEVEL), two.craft(26)}, 0, 50);
            SmallCraft cold = Check.flying("tank t 900;reactor r 50 0;");
            cold.run(500);
            Check.row("whole", new int[] {cold.part(0, BROKEN), cold.part(1, BROKEN), cold.craft(26)}, 0, 0, 50);
        });
        Check.sentence("Terms III, step 6", "Each SOURCE that is not BROKEN gives", () -> {
            SmallCraft craft = Check.flying("tank t 90;tank u 1;tank v 1;tank w 1;reactor r 50 0;panel p 100 0;tracker q 100 0;");
            craft.run(1);
            Check.due("all of them", craft.craft(26), 250);
            craft.run(620);
            Check.row("all are broken", row(craft, 4, 3, BROKEN), 1, 1, 1);
            Check.row("none gives, none needs", Check.crafts(craft, 25, 26, 27), 100, 0, 0);
            int[] before = new int[] {craft.part(0, LEVEL), craft.part(6, 56)};
            craft.command(2, 0, 0);
            craft.run(8);
            Check.row("neither fuel nor a turn", new int[] {craft.part(0, LEVEL), craft.part(6, 56)}, before);
            craft.command(4, 4, 0);
            craft.run(1);
            Check.row("a new reactor, but its tank is broken", new int[] {craft.part(0, BROKEN), craft.part(0, LEVEL),
                craft.craft(26)},
                1, before[0], 0);
            craft.command(4, 0, 0);
            craft.run(1);
            Check.due("a new tank", craft.craft(26), 50);
        });
        Check.sentence("Terms III, step 6",
            "DEMAND is NEED of all LOADS that are ON and of all SOURCES that are not BROKEN.", () -> {
            SmallCraft craft = Check.flying("heater h 5;tracker p 200 0;panel q 1 0;battery b 9;");
            craft.run(1);
            Check.due("a tracker's 3", craft.craft(27), 3);
            craft.command(0, 0, 0);
            craft.run(1);
            Check.due("and a heater's 5 + 6 / 4", craft.craft(27), 3 + 6);
            Check.due("nothing ahead of any tick", Check.flying("tracker p 1 0;").craft(27), 0);
        });
    }

    private static void batteries() {
        Check.sentence("Terms III, step 6",
            "NET above 0: its level grows by the least of NET, top, room - level, NET is less by that", () -> {
            SmallCraft top = Check.flying("battery b 100;panel p 9 0;");
            int[] got = new int[5];
            for (int k = 0; k < 5; k++) {
                top.run(1);
                got[k] = top.part(0, LEVEL);
            }
            Check.row("top 8 is the least, then the room", got, 83, 91, 99, 100, 100);
            SmallCraft net = Check.flying("battery b 100;panel p 7 0;");
            net.run(1);
            Check.due("NET 7 is the least", net.part(0, LEVEL), 82);
            SmallCraft one = Check.flying("battery b 100;panel p 1 0;");
            one.run(1);
            Check.due("NET 1", one.part(0, LEVEL), 76);
            SmallCraft three = Check.flying("battery a 100;battery b 100;battery c 100;panel p 10 0;");
            int[] tops = row(three, 0, 3, 13);
            three.run(1);
            Check.row("what is left goes to the next", row(three, 0, 3, LEVEL), 75 + tops[0], 75 + 10 - tops[0], 75);
            SmallCraft zero = Check.flying("battery a 100;");
            zero.run(1);
            Check.row("NET 0", new int[] {zero.part(0, LEVEL), zero.craft(16)}, 75, 0);
        });
        Check.sentence("Terms III, step 6",
            "below 0: its level is less by the least of 0 - NET, top, level, NET grows by that", () -> {
            SmallCraft net = Check.flying("battery b 100;gyro g 6 9 0;", 1);
            net.run(1);
            Check.row("7 is the least", new int[] {net.part(0, LEVEL), net.craft(16), net.craft(27)}, 68, 0, 7);
            SmallCraft top = Check.flying("battery b 100;gyro g 8 9 0;", 1);
            top.run(1);
            Check.row("top 8 is the least", new int[] {top.part(0, LEVEL), top.craft(16), top.craft(27)}, 67, 1, 9);
            SmallCraft level = Check.flying("battery b 10;gyro g 4 9 0;", 1);
            level.run(1);
            Check.row("5 of 7", new int[] {level.part(0, LEVEL), level.craft(16)}, 2, 0);
            level.run(1);
            Check.row("level 2 is the least", new int[] {level.part(0, LEVEL), level.craft(16), level.part(1, ON)}, 0, 1, 0);
            Check.on(level, 1);
            level.run(1);
            Check.row("level 0", new int[] {level.part(0, LEVEL), level.craft(16)}, 0, 2);
            SmallCraft two = Check.flying("battery a 100;battery b 100;battery c 100;gyro g 9 9 0;", 3);
            int[] tops = row(two, 0, 3, 13);
            two.run(1);
            Check.row("the next one gives the rest", row(two, 0, 3, LEVEL), 75 - tops[0], 75 - (10 - tops[0]), 75);
        });
        Check.sentence("Terms III, step 6", "(a least below 0 counts as 0)", () -> {
            SmallCraft full = Check.flying("battery b 1;cellpack c 1 1;panel p 200 0;");
            full.run(20);
            Check.row("no more than the room", row(full, 0, 2, LEVEL), 1, 1);
            SmallCraft empty = Check.flying("battery b 1;cellpack c 1 1;tracker p 1 2;");
            empty.run(20);
            Check.row("no less than 0", row(empty, 0, 2, LEVEL), 0, 0);
        });
        Check.sentence("Terms III, step 6", "Each BATTERY that is not BROKEN", () -> {
            SmallCraft cold = Check.flying("battery b 10;tank u 1;tank v 1;tank w 2000;battery e 2000;panel p 200 0;");
            cold.run(625);
            Check.row("one is broken, one is not", new int[] {cold.part(0, BROKEN), cold.part(4, BROKEN), cold.part(5,
                BROKEN)}, 1, 0, 1);
            cold.command(4, 5, 0);
            int[] before = {cold.part(0, LEVEL), cold.part(4, LEVEL)};
            cold.run(1);
            Check.row("the first is full and broken", new int[] {before[0], cold.part(0, LEVEL)}, 10, 10);
            Check.due("the other takes its top", cold.part(4, LEVEL), Math.min(2000, before[1] + cold.part(4, 13)));
            SmallCraft dark = Check.flying("battery b 10;tank u 1;tank v 1;tank w 2000;battery e 2000;tank y 2000;gyro g 3 9 0;");
            dark.run(520);
            Check.due("broken", dark.part(0, BROKEN), 1);
            dark.command(4, 6, 0);
            Check.on(dark, 6);
            dark.run(1);
            Check.row("the whole one gives all", new int[] {dark.part(0, LEVEL), dark.part(4, LEVEL), dark.craft(16)},
                7, 1500 - 4, 0);
        });
        Check.sentence("Terms III, step 6",
            "If NET is below 0 still: a BROWNOUT: the LOAD that is ON with the greatest line, of several "
            + "that of the greatest number, goes OFF.", () -> {
            SmallCraft even = Check.flying("battery b 100;gyro g 7 9 0;", 1);
            even.run(1);
            Check.row("NET 0 is not below 0", new int[] {even.craft(27), even.craft(16), even.part(1, ON)}, 8, 0, 1);
            SmallCraft less = Check.flying("battery b 100;gyro g 8 9 0;", 1);
            less.run(1);
            Check.row("NET -1 is", new int[] {less.craft(27), less.craft(16), less.part(1, ON)}, 9, 1, 0);
            SmallCraft craft = Check.flying(many("", 8, "heater", "5"), from(0, 7));
            Check.row("lines", row(craft, 0, 8, 21), 0, 1, 2, 0, 1, 2, 0, 1);
            for (int off : new int[] {5, 2, 7, 4, 1, 6, 3, 0}) {
                Check.due("still on: " + off, craft.part(off, ON), 1);
                craft.run(1);
                Check.due("off: " + off, craft.part(off, ON), 0);
            }
            Check.due("one a tick", craft.craft(16), 8);
            craft.run(1);
            Check.due("nothing is on", craft.craft(16), 8);
            SmallCraft bare = Check.flying("tracker p 1 2;");
            bare.run(2);
            Check.row("without a load", Check.crafts(bare, 16, 26, 27), 2, 0, 3);
        });
    }

    // ---- III. Hoses and heat
    private static void hoses() {
        Check.sentence("Terms III, step 7",
            "from the one with the higher level (one, if they are alike) to the other one go the least of "
            + "flow, the level of the first, room less level of the second, half of the difference of their "
            + "levels.", () -> {
            SmallCraft room = Check.flying("tank a 100;tank b 10;reactor r 9 1;hose h 1 0 3;");
            room.run(1);
            Check.row("room for 1", row(room, 0, 2, LEVEL), 99, 10);
            room.run(1);
            Check.row("no room", row(room, 0, 2, LEVEL), 99, 10);
            SmallCraft half = Check.flying("tank a 50;tank b 50;reactor r 9 1;hose h 0 1 3;");
            half.run(1);
            Check.row("half of 1 is 0", row(half, 0, 2, LEVEL), 50, 49);
            half.run(8);
            Check.row("half of 2 is 1", row(half, 0, 2, LEVEL), 49, 49);
            SmallCraft back = Check.flying("tank a 50;tank b 50;reactor r 9 0;reactor s 9 0;hose h 0 1 3;");
            back.run(1);
            Check.row("the other way", row(back, 0, 2, LEVEL), 49, 49);
            SmallCraft flow = Check.flying(many("tank a 50;tank b 50;", 10, "reactor", "9 1") + "hose h 0 1 1;");
            flow.run(1);
            Check.row("flow 2", new int[] {flow.part(12, 61), flow.part(0, LEVEL), flow.part(1, LEVEL)}, 2, 48, 42);
            SmallCraft alike = Check.flying("tank a 50;tank b 50;tank c 9;hose h 0 1 9;hose i 2 2 9;");
            alike.run(1);
            Check.row("alike", row(alike, 0, 3, LEVEL), 50, 50, 9);
            SmallCraft two = Check.flying(many("tank a 50;tank b 50;", 8, "reactor", "9 1") + "hose h 0 1 1;hose i 1 0 1;");
            int[] flows = {two.part(10, 61), two.part(11, 61)};
            two.run(1);
            Check.row("hose by hose", row(two, 0, 2, LEVEL), 50 - flows[0] - Math.min(flows[1], (8 - 2 * flows[0]) / 2),
                42 + flows[0] + Math.min(flows[1], (8 - 2 * flows[0]) / 2));
        });
        Check.sentence("Terms III, step 7", "Each HOSE that is not BROKEN: if neither tank is BROKEN", () -> {
            for (int which = 0; which < 2; which++) {
                // In the cold the hose breaks first, then the reactor that has drained the tank since, then that tank.
                SmallCraft craft = Check.flying("tank b 2000;tank y 2000;tank u 1;tank v 1;tank a 100;reactor s 200 4;tank w 90;tank z 1;hose h "
                    + (which == 0 ? "0 4" : "4 0") + " 9;");
                craft.run(470);
                Check.row("one tank is broken", new int[] {craft.part(0, BROKEN), craft.part(4, BROKEN), craft.part(5,
                    BROKEN)}, 0, 1, 1);
                craft.command(4, 8, 0);
                int[] before = {craft.part(0, LEVEL), craft.part(4, LEVEL)};
                Check.due("it is not full", before[1] < 100, true);
                craft.run(1);
                Check.row("nothing flows", new int[] {craft.part(0, LEVEL), craft.part(4, LEVEL)}, before);
            }
            SmallCraft drained = Check.flying("tank a 2000;tank b 2000;reactor r 9 0;reactor s 9 0;reactor q 9 0;tank v 1;tank w 1;hose h 0 1 9;");
            drained.run(521);
            Check.row("the hose is broken, the tanks are not", new int[] {drained.part(7, BROKEN), drained.part(0, BROKEN),
                drained.part(1, BROKEN)}, 1, 0, 0);
            int[] before = row(drained, 0, 2, LEVEL);
            drained.command(4, 0, 0);
            drained.run(1);
            Check.row("so that nothing flows", row(drained, 0, 2, LEVEL), 2000, before[1]);
            drained.command(4, 7, 0);
            drained.run(1);
            Check.due("a new hose", drained.part(1, LEVEL) > before[1], true);
        });
    }

    private static void heat() {
        Check.sentence("Terms III, step 8",
            ", -500, 1500), P being NEED of a LOAD that is ON (four times that of HEATERS), else 0.", () -> {
            // Seventeen pipes of flow 4 move more than the difference, so that it grows from tick to tick.
            SmallCraft craft = Check.flying(many("battery a 9;heater b 50;panel c 200 0;", 17, "pipe", "0 1"), 1);
            Check.due("flow", craft.part(3, 61), 4);
            int tooMuch = 0;
            int tooLittle = 0;
            for (int t = 0; t <= 20; t++) {
                int[] h = row(craft, 0, 3, HEAT);
                int between = h[1] - h[0];
                // The heater works until it is broken.
                int work = h[1] <= 900 && craft.part(1, BROKEN) == 0 ? 4 * 62 * 10 / 15 : 0;
                int low = h[0] + between / 16 + 17 * (between * 4 / 64) - (h[0] - 150) / 32;
                int high = h[1] + work - between / 16 + (h[2] - h[1]) / 16 - 17 * (between * 4 / 64) - (h[1] - 150) / 39;
                craft.run(1);
                Check.row("heats of tick " + t, row(craft, 0, 2, HEAT), Math.max(-500, Math.min(1500, low)),
                    Math.max(-500, Math.min(1500, high)));
                tooMuch += low > 1500 || high > 1500 ? 1 : 0;
                tooLittle += low < -500 || high < -500 ? 1 : 0;
            }
            Check.row("both limits were met, and are reached", new int[] {tooMuch > 2 ? 1 : 0, tooLittle > 2 ? 1 : 0,
                craft.part(0, HEAT),
                craft.part(1, HEAT)}, 1, 1, -500, 1500);
        });
        Check.sentence("Terms III, step 8",
            "over the units with the next lesser and the next greater number, of (theirs - H) / 16", () -> {
            SmallCraft alone = Check.flying("panel p 200 0;heater h 50;tank t 1;", 1);
            alone.run(1);
            Check.row("no difference yet", row(alone, 0, 3, HEAT), 199, 364, 199);
            alone.run(1);
            Check.row("both neighbours, at the ends one", row(alone, 0, 3, HEAT), 199 + 165 / 16 - 49 / 39,
                364 + 165 - 165 / 16 - 165 / 16 - 214 / 39,
                199 + 165 / 16 - 49 / 32);
        });
        Check.sentence("Terms III, step 8", "(once each; both the same unit: nothing)", () -> {
            SmallCraft same = Check.flying("panel p 200 0;heater h 50;tank t 1;pipe i 1 1;tank u 1;", 1);
            SmallCraft none = Check.flying("panel p 200 0;heater h 50;tank t 1;tank i 1;tank u 1;", 1);
            same.run(3);
            none.run(3);
            Check.row("both ends the same", row(same, 0, 2, HEAT), row(none, 0, 2, HEAT));
            SmallCraft pipes = Check.flying("panel p 200 0;heater h 50;tank t 1;tank y 1;pipe i 1 3;pipe j 3 1;", 1);
            pipes.run(1);
            int[] before = row(pipes, 0, 5, HEAT);
            pipes.run(1);
            int flow = pipes.part(4, 61);
            int other = pipes.part(5, 61);
            int difference = before[1] - before[3];
            Check.due("two pipes, one each way", pipes.part(3, HEAT), before[3] + (before[2] - before[3]) / 16
                + (before[4] - before[3]) / 16 + difference * flow / 64 + difference * other / 64 - (before[3] - 150) / 32);
        });
        Check.sentence("Terms III, step 8", "the PIPES that are not BROKEN", () -> {
            SmallCraft craft = Check.flying("cellpack c 2000 8;cellpack d 2000 8;tank u 1;tank v 1;pipe p 0 1;tank w 1;");
            craft.run(520);
            Check.row("the pipe is broken", new int[] {craft.part(4, BROKEN), craft.part(0, BROKEN)}, 1, 0);
            craft.command(4, 0, 0);
            int heat = craft.part(1, HEAT);
            int next = craft.part(2, HEAT);
            craft.run(1);
            Check.due("it leads nothing", craft.part(1, HEAT),
                heat + (200 - heat) / 16 + (next - heat) / 16 - (heat + 250) / 232);
        });
        Check.sentence("Terms III, step 8",
            "Then each unit that is not BROKEN with H above 900 or below -200 is BROKEN, by a FAILURE: it "
            + "goes OFF.", () -> {
            SmallCraft cold = Check.flying("tank t 1;");
            cold.run(430);
            Check.row("-200 is not below", new int[] {cold.part(0, HEAT), cold.part(0, BROKEN), cold.craft(17)}, -200, 0, 0);
            cold.run(1);
            Check.row("-201 is", new int[] {cold.part(0, HEAT), cold.part(0, BROKEN), cold.craft(17)}, -201, 1, 1);
            cold.run(50);
            Check.due("a broken one fails no more", cold.craft(17), 1);
            SmallCraft warm = Check.flying("heater h 13;tank t 100;panel p 200 0;", 0);
            warm.run(12);
            Check.row("900 is not above", new int[] {warm.part(0, HEAT), warm.part(0, BROKEN), warm.part(0, ON),
                warm.craft(17)}, 900, 0, 1, 0);
            SmallCraft hot = Check.flying("heater h 32;tank t 1;panel p 200 0;", 0);
            hot.run(5);
            Check.row("whole", Check.parts(hot, 0, BROKEN, ON), 0, 1);
            hot.run(1);
            Check.row("901 is", new int[] {hot.part(0, HEAT), hot.part(0, BROKEN), hot.part(0, ON), hot.craft(17)},
                901, 1, 0, 1);
            hot.run(100);
            Check.row("it stays broken", Check.parts(hot, 0, BROKEN, ON), 1, 0);
        });
        Check.sentence("Terms III, step 8",
            "Then each THERMO that is not BROKEN: H of unit of below target - band: it is ON, above target "
            + "+ band: OFF.", () -> {
            // Behind tick 0 the tank has 199; the thermo's band is 5 + 2 * 5 + 6 / 8.
            int[] targets = {213, 214, 215, 216};
            int[] on = {0, 0, 1, 1};
            for (int k = 0; k < targets.length; k++) {
                SmallCraft craft = Check.flying("tank t 1;panel p 200 0;thermo o 5 0 " + targets[k] + ";");
                Check.row("line, band", Check.parts(craft, 2, 21, 26), 2, 15);
                craft.run(1);
                Check.row("target " + targets[k], new int[] {craft.part(0, HEAT), craft.part(2, ON)}, 199, on[k]);
            }
            int[] lower = {182, 183, 184, 185};
            int[] off = {0, 0, 1, 1};
            for (int k = 0; k < lower.length; k++) {
                SmallCraft craft = Check.flying("tank t 1;panel p 200 0;thermo o 5 0 " + lower[k] + ";", 2);
                craft.run(1);
                Check.row("target " + lower[k], new int[] {craft.part(0, HEAT), craft.part(2, ON)}, 199, off[k]);
            }
            SmallCraft hot = Check.flying("panel p 200 0;tank t 1;thermo o 50 1 900;", 2);
            hot.run(8);
            Check.row("a broken one stays off", new int[] {hot.part(2, BROKEN), hot.part(2, ON), hot.part(1,
                HEAT) < 800 ? 1 : 0}, 1, 0, 1);
        });
    }

    // ---- III. Frames and the way down
    private static int check(int... bytes) {
        int check = 0;
        for (int b : bytes) {
            check ^= b;
            for (int k = 0; k < 8; k++) {
                int twice = 2 * check % 256;
                check = check >= 128 ? twice ^ 7 : twice;
            }
        }
        return check;
    }

    private static void frames() {
        Check.sentence("Terms III, step 9", "if t MOD 25 is 24: twelve bytes", () -> {
            SmallCraft craft = Check.flying("recorder r 2000;");
            int[] ticks = {24, 25, 49, 50, 74, 75};
            int[] levels = {0, 12, 12, 24, 24, 36};
            for (int k = 0; k < ticks.length; k++) {
                Check.until(craft, ticks[k]);
                Check.row("behind " + ticks[k] + " ticks", new int[] {craft.part(0, LEVEL), craft.craft(18)},
                    levels[k], levels[k] / 12);
            }
        });
        Check.sentence("Terms III, step 9",
            "165; t / 256 MOD 256; t MOD 256; MODE; 100 * all BATTERIES' levels / all their rooms (0 "
            + "without)", () -> {
            SmallCraft craft = Check.flying("recorder r 2000;battery b 1999;cellpack c 2000 7;");
            Check.plan(craft, "each 1000 wipe r;");
            int levels = craft.part(1, LEVEL) + craft.part(2, LEVEL);
            Check.due("levels", levels, 1499 + 1312);
            int[] ticks = {24, 249, 274, 499, 524, 65524, 65549, 65799};
            for (int t : ticks) {
                Check.until(craft, t);
                craft.command(5, 0, 0);
                craft.command(2, t % 4, 0);
                craft.run(1);
                int mode = craft.craft(2);
                int[] got = {craft.kept(0, 0), craft.kept(0, 1), craft.kept(0, 2), craft.kept(0, 3), craft.kept(0, 4),
                    craft.kept(0, 5)};
                Check.row("tick " + t, got, 165, t / 256 % 256, t % 256, mode, 100 * 2811 / 3999, craft.craft(25));
            }
            SmallCraft bare = Check.flying("recorder r 20;");
            bare.run(25);
            Check.due("without batteries", bare.kept(0, 4), 0);
            for (int room : new int[] {1, 2, 4, 2000}) {
                SmallCraft full = Check.flying("battery b " + room + ";recorder r 20;panel p " + (room > 9 ? 200 : 9) + " 0;");
                full.run(25);
                Check.due("of " + room, full.kept(1, 4), 100 * full.part(0, LEVEL) / room);
                Check.due("full or not", full.part(0, LEVEL) == room, room < 9);
            }
            SmallCraft cold = Check.flying("battery b 10;tank u 1;tank v 1;tank w 2000;recorder r 2000;tank y 2000;");
            cold.run(525);
            Check.row("a broken battery counts, too", new int[] {cold.part(0, BROKEN), cold.part(4, BROKEN),
                cold.kept(4, 20 * 12 + 2),
                cold.kept(4, 20 * 12 + 4)}, 1, 0, 524 - 512, 70);
        });
        Check.sentence("Terms III, step 9",
            "L; G0 / 16, G1 / 16, G2 / 16; how many units are BROKEN; how many LOADS are ON", () -> {
            SmallCraft craft = Check.flying("wheel v 1 1;cellpack c 2000 8;wheel w 1 1;wheel x 1 2;wheel y 1 2;recorder r 2000;", 0, 2, 3, 4);
            craft.command(2, 1, 0);
            craft.command(3, 1, 1800);
            craft.command(3, 2, 1799);
            craft.run(1);
            craft.command(2, 0, 0);
            craft.run(24);
            Check.row("angles", Check.crafts(craft, 4, 5), 3575, 25);
            Check.row("of tick 24", new int[] {craft.kept(5, 5), craft.kept(5, 6), craft.kept(5, 7), craft.kept(5, 8),
                craft.kept(5, 9),
                craft.kept(5, 10)}, 100, 0, 223, 1, 0, 4);
            craft.command(1, 0, 0);
            craft.run(25);
            Check.row("of tick 49", new int[] {craft.kept(5, 17), craft.kept(5, 18), craft.kept(5, 19), craft.kept(5,
                20), craft.kept(5, 21),
                craft.kept(5, 22)}, 100, 0, 221, 3, 0, 3);
            SmallCraft cold = Check.flying("tank t 1;tank u 1;tank a 1;tank b 1;recorder r 2000;tank v 2000;");
            cold.run(475);
            int broken = 0;
            for (int unit = 0; unit < 6; unit++) {
                broken += cold.part(unit, BROKEN);
            }
            Check.row("the first unit, too, is broken", new int[] {cold.part(0, BROKEN), cold.part(4, BROKEN),
                cold.kept(4, 18 * 12 + 9)}, 1, 0, broken);
            Check.due("no load is on", cold.kept(4, 18 * 12 + 10), 0);
            // The frame comes behind the heat: a thermo that goes on in its tick counts. The tank cools by more than 1 a tick.
            String book = "tank t 1;thermo o 5 0 %d;recorder r 2000;";
            SmallCraft probe = Check.flying(book.replace("%d", "-300"));
            probe.run(374);
            int warmer = probe.part(0, HEAT);
            probe.run(1);
            int cooler = probe.part(0, HEAT);
            Check.row("cooling, no load is on", new int[] {cooler < warmer ? 1 : 0, probe.kept(2, 14 * 12 + 10)}, 1, 0);
            SmallCraft late = Check.flying(book.replace("%d", "" + (cooler + 1 + probe.part(1, 26))));
            late.run(374);
            Check.row("not yet", new int[] {late.part(1, ON), late.part(0, HEAT)}, 0, warmer);
            late.run(1);
            Check.row("in the tick of the frame", new int[] {late.part(1, ON), late.kept(2, 14 * 12 + 2), late.kept(2,
                14 * 12 + 10)}, 1, 374 - 256, 1);
        });
        Check.sentence("Terms III, step 9",
            "a CHECK of these eleven (0 at first; for each byte: that xor the byte, then eight times: twice "
            + "that, MOD 256, xor 7 if it was 128 or more)", () -> {
            SmallCraft craft = Check.flying("recorder r 2000;heater h 1;" + STORE + "tank t 1;tank u 1;tank v 1;", 1);
            craft.run(25);
            int[] bytes = new int[12];
            for (int i = 0; i < 12; i++) {
                bytes[i] = craft.kept(0, i);
            }
            Check.row("tick 24", bytes, 165, 0, 24, 0, 74, 100, 0, 0, 0, 0, 1, check(165, 0, 24, 0, 74, 100, 0, 0, 0, 0, 1));
            Check.until(craft, 575);
            int[] later = new int[12];
            for (int i = 0; i < 12; i++) {
                later[i] = craft.kept(0, 22 * 12 + i);
            }
            int broken = craft.part(4, BROKEN) + craft.part(5, BROKEN) + craft.part(6, BROKEN);
            Check.due("broken tanks", broken > 0, true);
            int charge = 100 * (3000 - 575) / 4000;
            int angle = craft.craft(3) / 16;
            Check.row("tick 574", later, 165, 2, 574 - 512, 0, charge, 0, angle, 0, 0, broken, 1,
                check(165, 2, 62, 0, charge, 0, angle, 0, 0, broken, 1));
        });
        Check.sentence("Terms III, step 9", "twice that, MOD 256, xor 7 if it was 128 or more", () -> {
            for (int book = 0; book < 4; book++) {
                SmallCraft craft = Check.flying("recorder r 2000;cellpack c " + (1000 + 300 * book) + " 8;tank t 2000;");
                craft.run(1000);
                for (int frame = 0; frame < 40; frame++) {
                    int[] bytes = new int[11];
                    for (int i = 0; i < 11; i++) {
                        bytes[i] = craft.kept(0, 12 * frame + i);
                    }
                    Check.due("frame " + frame, craft.kept(0, 12 * frame + 11), check(bytes));
                }
            }
        });
        Check.sentence("Terms III, step 9",
            "has room for 12 bytes more than its level (which grows by 12); without one the frame is LOST.", () -> {
            int[] rooms = {23, 24, 25, 35, 36};
            int[] kept = {1, 2, 2, 2, 3};
            for (int k = 0; k < rooms.length; k++) {
                SmallCraft craft = Check.flying("recorder r " + rooms[k] + ";");
                craft.run(100);
                Check.row("room " + rooms[k], new int[] {craft.part(0, LEVEL), craft.craft(18), craft.craft(19)},
                    12 * kept[k], kept[k], 4 - kept[k]);
            }
            SmallCraft none = Check.flying("tank t 9;");
            none.run(50);
            Check.row("no recorder", Check.crafts(none, 18, 19), 0, 2);
            SmallCraft two = Check.flying("recorder r 23;recorder s 23;");
            two.run(75);
            Check.row("the next one", new int[] {two.part(0, LEVEL), two.part(1, LEVEL), two.craft(18),
                two.craft(19)}, 12, 12, 2, 1);
            SmallCraft cold = Check.flying("recorder r 50;tank a 1;tank b 1;tank y 2000;recorder s 2000;tank z 2000;");
            cold.run(515);
            Check.row("the first is broken", new int[] {cold.part(0, BROKEN), cold.part(4, BROKEN)}, 1, 0);
            cold.command(5, 0, 0);
            int level = cold.part(4, LEVEL);
            cold.run(10);
            Check.row("so the next one keeps it", new int[] {cold.part(0, LEVEL), cold.part(4, LEVEL) - level}, 0, 12);
        });
    }

    private static void down() {
        Check.sentence("Terms III, step 10",
            "as many bytes as rate (fewer, if there are not so many) go down: those that were kept first by "
            + "the first RECORDER that is not BROKEN and keeps any, then by the next one; levels are less by "
            + "that.", () -> {
            SmallCraft craft = Check.flying(STORE + "recorder r 20;recorder s 20;recorder u 40;radio d 1 40;", 5);
            craft.run(100);
            Check.row("kept", row(craft, 2, 3, LEVEL), 12, 12, 24);
            craft.run(1);
            Check.row("40 of 48, recorder by recorder", row(craft, 2, 3, LEVEL), 0, 0, 8);
            Check.row("sent", new int[] {craft.part(5, 51), craft.craft(20)}, 40, 40);
            Check.row("in their order", new int[] {craft.down(39), craft.down(37), craft.down(25), craft.down(13),
                craft.down(1)}, 165, 24, 49, 74, 99);
            craft.run(1);
            Check.row("the 8 that are left", new int[] {craft.part(4, LEVEL), craft.part(5, 51), craft.craft(20)}, 0,
                48, 48);
            craft.run(1);
            Check.row("nothing is left", new int[] {craft.part(5, 51), craft.craft(20)}, 48, 48);
            SmallCraft both = Check.flying(STORE + "recorder r 100;radio d 1 1;radio e 1 2;radio f 1 3;", 3, 5);
            both.run(101);
            Check.row("each radio that is on", new int[] {both.part(3, 51), both.part(4, 51), both.part(5, 51),
                both.craft(20)}, 1, 0, 3, 4);
            SmallCraft cold = Check.flying("recorder r 50;tank a 1;tank b 1;tank y 2000;recorder s 2000;" + STORE + "radio d 1 5;");
            cold.run(700);
            Check.row("the first is broken", new int[] {cold.part(0, BROKEN), cold.part(4, BROKEN)}, 1, 0);
            cold.command(4, 7, 0);
            Check.on(cold, 7);
            int[] before = {cold.part(0, LEVEL), cold.part(4, LEVEL)};
            Check.due("it keeps some", before[0] > 0, true);
            cold.run(1);
            Check.row("its bytes do not go", new int[] {cold.part(0, LEVEL), cold.part(4, LEVEL)}, before[0], before[1] - 5);
        });
        Check.sentence("Terms III, step 10", "a BEACON, if t MOD every is 0: a byte 48 + MODE goes down.", () -> {
            SmallCraft craft = Check.flying("beacon n 1 21;panel p 200 0;", 0);
            Check.due("every", craft.part(0, 31), 11);
            int[] ticks = {1, 11, 12, 22, 23};
            int[] sent = {1, 1, 2, 2, 3};
            for (int k = 0; k < ticks.length; k++) {
                craft.command(2, k % 3, 0);
                Check.until(craft, ticks[k]);
                Check.row("behind " + ticks[k] + " ticks", new int[] {craft.part(0, 51), craft.craft(20)}, sent[k], sent[k]);
            }
            Check.row("bytes", new int[] {craft.down(0), craft.down(1), craft.down(2)}, 48 + 1, 48 + 2, 48);
            craft.command(1, 0, 0);
            craft.run(22);
            Check.due("off", craft.craft(20), 3);
        });
        Check.sentence("Promise 14",
            "The i-th latest byte that went down (0 the latest; 500 are kept); NONE if there is none such.", () -> {
            SmallCraft craft = Check.flying("recorder r 2000;panel p 200 0;camera m 4 1 0;radio d 1 1;", 2, 3);
            Check.due("none yet", craft.down(0), -1);
            craft.run(101);
            Check.row("one", new int[] {craft.down(-1), craft.down(0) >= 0 ? 1 : 0, craft.down(1)}, -1, 1, -1);
            SmallCraft fast = Check.flying("recorder r 2000;panel p 200 0;camera m 4 1 0;radio d 1 25;", 2, 3);
            fast.run(100);
            // The first bytes are pictures of five, each one more than the one ahead: of tick t (t + 500) MOD 256.
            fast.run(20);
            Check.due("five hundred", fast.craft(20), 500);
            Check.row("the first is still kept", new int[] {fast.down(499), fast.down(498), fast.down(500)}, 244, 245, -1);
            fast.run(1);
            Check.due("25 more", fast.craft(20), 525);
            Check.row("500 are kept", new int[] {fast.down(499), fast.down(500), fast.down(524)}, 249, -1, -1);
            for (int i : new int[] {-1, 501, Integer.MIN_VALUE, Integer.MAX_VALUE}) {
                Check.due("byte " + i, fast.down(i), -1);
            }
            Check.load(fast, "tank t 9;");
            Check.due("a new load", fast.down(0), -1);
        });
        Check.sentence("Terms III, step 11",
            "If there was a BROWNOUT or a FAILURE in this TICK, and MODE is not 0, MODE is 3.", () -> {
            for (int mode = 0; mode <= 3; mode++) {
                SmallCraft dim = Check.flying("tracker p 1 2;");
                dim.command(2, mode, 0);
                dim.run(1);
                Check.row("a brownout in mode " + mode, Check.crafts(dim, 16, 17, 2), 1, 0, mode == 0 ? 0 : 3);
                SmallCraft cold = Check.flying("tank t 1;");
                cold.command(2, mode, 0);
                cold.run(430);
                Check.row("nothing yet in mode " + mode, Check.crafts(cold, 16, 17, 2), 0, 0, mode);
                cold.run(1);
                Check.row("a failure in mode " + mode, Check.crafts(cold, 16, 17, 2), 0, 1, mode == 0 ? 0 : 3);
                cold.command(2, mode, 0);
                cold.run(1);
                Check.row("none in the next tick", Check.crafts(cold, 17, 2), 1, mode);
            }
        });
    }

    // ---- promises 6 and 16
    private static void run() {
        Check.sentence("Promise 6", "So many TICKS: how many there were ever since load().", () -> {
            SmallCraft craft = Check.flying("tank t 5;");
            Check.row("runs", new int[] {craft.run(0), craft.run(1), craft.run(0), craft.run(1000), craft.run(999)},
                0, 1, 1, 1001, 2000);
            Check.load(craft, "tank");
            Check.due("a fault", craft.run(1), 2001);
            Check.load(craft, "tank t 5;");
            Check.row("since load()", new int[] {craft.craft(1), craft.run(2)}, 0, 2);
        });
        Check.sentence("Promise 6",
            "IllegalStateException when there are no units; then IllegalArgumentException when n is not 0 "
            + ".. 1000.", () -> {
            SmallCraft craft = new SmallCraft();
            for (int n : new int[] {-1, 0, 1, 1000, 1001, Integer.MIN_VALUE, Integer.MAX_VALUE}) {
                Check.fails("run(" + n + ") without units", IllegalStateException.class, () -> craft.run(n));
            }
            Check.load(craft, "tank t 5;");
            for (int n : new int[] {-1, 1001, Integer.MIN_VALUE, Integer.MAX_VALUE}) {
                Check.fails("run(" + n + ")", IllegalArgumentException.class, () -> craft.run(n));
            }
            Check.due("no tick was flown", craft.craft(1), 0);
            craft.load(0);
            Check.fails("an empty book", IllegalStateException.class, () -> craft.run(0));
        });
    }

    private static void craft() {
        Check.sentence("Promise 16", "of the latest TICK (0 ahead of any): 25 L, 26 SUPPLY, 27 DEMAND.", () -> {
            SmallCraft craft = Check.flying("tracker p 100 0;");
            Check.row("ahead of any", Check.crafts(craft, 25, 26, 27), 0, 0, 0);
            craft.run(0);
            Check.row("none was flown", Check.crafts(craft, 25, 26, 27), 0, 0, 0);
            craft.run(1);
            Check.row("tick 0", Check.crafts(craft, 25, 26, 27), 100, 100, 3);
            craft.run(340);
            Check.row("tick 340", Check.crafts(craft, 25, 26, 27), 95, 95, 3);
            Check.load(craft, "tracker p 100 0;");
            Check.row("a new load", Check.crafts(craft, 25, 26, 27), 0, 0, 0);
        });
        Check.sentence("Promise 16", "0 for another what.", () -> {
            SmallCraft craft = Check.flying("tracker p 100 0;recorder r 20;");
            craft.run(100);
            for (int what : new int[] {-1, 28, 29, 99, Integer.MIN_VALUE, Integer.MAX_VALUE}) {
                Check.due("craft(" + what + ")", craft.craft(what), 0);
            }
        });
        Check.sentence("Promise 16",
            "0 units, 1 TICKS, 2 MODE, 3 .. 5 G0 .. G2, 6 .. 8 R0 .. R2, 9 .. 11 the aims", () -> {
            SmallCraft craft = Check.flying("tank t 1;");
            craft.command(3, 0, 3599);
            craft.command(3, 1, 0);
            craft.command(3, 2, 1);
            craft.run(1);
            Check.row("the aims at their edges", Check.crafts(craft, 0, 1, 2, 3, 4, 5, 6, 7, 8, 9, 10, 11), 1, 1, 0,
                0, 0, 0, 1, 0, 0, 3599, 0, 1);
        });
    }

    public static void main(String[] args) {
        numbers();
        load();
        light();
        readings();
        pictures();
        modes();
        wishes();
        jets();
        turning();
        panels();
        sources();
        batteries();
        hoses();
        heat();
        frames();
        down();
        run();
        craft();
        Check.end();
    }
}
