/** Promises 6, 7 and 13 to 16: ticks, acts, and what can be seen of a flight; the numbers are worked out by hand. */
public final class FlightTest {
    private static final Class<IllegalArgumentException> ILLEGAL = IllegalArgumentException.class;
    private static final int ON = 22;
    private static final int HEAT = 62;

    private static SmallCraft flying(String book, int... on) {
        SmallCraft craft = Check.flying(book);
        for (int unit : on) {
            Check.due("on " + unit + " of " + book, craft.command(0, unit, 0), true);
        }
        return craft;
    }

    private static void run() {
        SmallCraft craft = new SmallCraft();
        Check.fails("run(1) without units", IllegalStateException.class, () -> craft.run(1));
        Check.fails("run(-1) without units", IllegalStateException.class, () -> craft.run(-1));
        Check.load(craft, "tank t 5;");
        Check.fails("run(-1)", ILLEGAL, () -> craft.run(-1));
        Check.fails("run(1001)", ILLEGAL, () -> craft.run(1001));
        Check.row("ticks", new int[] {craft.run(0), craft.run(1), craft.run(1000), craft.run(5)}, 0, 1, 1001, 1006);
        Check.due("craft tells them, too", craft.craft(1), 1006);
    }

    private static void light() {
        SmallCraft craft = Check.flying("tank t 5;");
        Check.due("ahead of any tick", craft.craft(25), 0);
        int[] ticks = {0, 339, 340, 341, 358, 359, 360, 579, 580, 598, 599, 600, 940};
        int[] lights = {100, 100, 95, 90, 5, 0, 0, 0, 5, 95, 100, 100, 95};
        for (int k = 0; k < ticks.length; k++) {
            craft.run(ticks[k] + 1 - craft.craft(1));
            Check.due("light of tick " + ticks[k], craft.craft(25), lights[k]);
        }
    }

    private static void panels() {
        int[] due = {200, 102, 0, 102};
        for (int face = 0; face < 4; face++) {
            SmallCraft craft = Check.flying("panel p 200 " + face + ";");
            craft.run(1);
            Check.row("a panel of face " + face, Check.crafts(craft, 26, 27), due[face], 0);
            craft.run(340);
            Check.due("by less light, face " + face, craft.craft(26), new int[] {190, 96, 0, 96}[face]);
        }
        SmallCraft craft = Check.flying("tracker p 100 0;");
        for (int at = 15; at >= 0; at -= 5) {
            craft.run(1);
            Check.due("a tracker comes nearer", craft.part(0, 56), at);
        }
        Check.row("supply and demand of a tracker", Check.crafts(craft, 26, 27), 100, 3);
    }

    private static void reactor() {
        SmallCraft craft = Check.flying("tank t 3;reactor r 50 0;");
        craft.run(17);
        Check.row("the last drop", new int[] {craft.craft(26), craft.part(0, 10)}, 50, 0);
        craft.run(1);
        Check.row("behind it", new int[] {craft.craft(26), craft.part(0, 10)}, 0, 0);
    }

    private static void batteries() {
        SmallCraft craft = Check.flying("battery b 100;panel p 10 0;heater h 50;");
        for (int level : new int[] {83, 91, 99, 100, 100}) {
            craft.run(1);
            Check.due("it is filled by top", craft.part(0, 10), level);
        }
        craft.command(0, 2, 0);
        craft.run(1);
        Check.row("emptied by top, and still a brownout", new int[] {craft.part(0, 10), craft.craft(16), craft.part(2, ON)},
            92, 1, 0);
        Check.row("supply and demand", Check.crafts(craft, 26, 27), 10, 62);
    }

    /** Lines of heaters in a row are 0 1 2 0 1 2. */
    private static void brownouts() {
        SmallCraft craft = flying("heater a 5;heater b 5;heater c 5;heater d 5;heater e 5;heater f 5;", 0, 1, 2, 3, 4, 5);
        for (int off : new int[] {5, 2, 4, 1, 3, 0}) {
            Check.due("still on: " + off, craft.part(off, ON), 1);
            craft.run(1);
            Check.due("the greatest line goes first: " + off, craft.part(off, ON), 0);
        }
        Check.row("brownouts, mode", Check.crafts(craft, 16, 2), 6, 0);
        for (int i = 0; i < 6; i++) {
            craft.command(0, i, 0);
        }
        craft.command(2, 1, 0);
        craft.run(1);
        Check.due("a brownout brings mode 3", craft.craft(2), 3);
        craft.run(1);
        int[] on = new int[6];
        for (int i = 0; i < 6; i++) {
            on[i] = craft.part(i, ON);
        }
        Check.row("mode 3 takes line 2 off, the brownout one more", on, 1, 1, 0, 1, 0, 0);
        SmallCraft bare = Check.flying("tracker p 1 2;");
        bare.run(1);
        Check.due("a brownout without a load", bare.craft(16), 1);
    }

    private static void heat() {
        SmallCraft craft = flying("tank t 100;reactor r 200 0;heater h 50;", 2);
        craft.command(2, 2, 0);
        int[] heater = {364, 514, 651, 778, 894, 1002};
        int[] reactor = {199, 208, 226, 250, 278};
        for (int k = 0; k < heater.length; k++) {
            Check.row("whole until then", new int[] {craft.part(2, 63), craft.craft(17)}, 0, 0);
            craft.run(1);
            Check.due("the heater", craft.part(2, HEAT), heater[k]);
            if (k < reactor.length) {
                Check.due("the reactor beside it", craft.part(1, HEAT), reactor[k]);
            }
        }
        Check.row("a failure", new int[] {craft.part(2, 63), craft.part(2, ON), craft.craft(17), craft.craft(2)}, 1, 0, 1, 3);
        Check.due("on of a broken one", craft.command(0, 2, 0), false);
        Check.due("off of a broken one", craft.command(1, 2, 0), true);
        craft.command(4, 2, 0);
        Check.row("started again", Check.parts(craft, 2, HEAT, 63, ON), 200, 0, 0);
        SmallCraft piped = flying("tank t 100;reactor r 200 0;heater h 50;pipe p 2 0;", 2);
        piped.run(2);
        Check.row("a pipe leads heat", new int[] {piped.part(0, HEAT), piped.part(2, HEAT)}, 205, 497);
        SmallCraft cold = Check.flying("tank t 1;");
        cold.run(600);
        Check.row("broken by cold", new int[] {cold.part(0, 63), cold.craft(17)}, 1, 1);
    }

    private static void thermos() {
        SmallCraft craft = Check.flying("tank t 100;reactor r 200 0;thermo h 5 0 300;");
        craft.run(1);
        Check.due("too cold", craft.part(2, ON), 1);
        SmallCraft warm = Check.flying("tank t 100;reactor r 200 0;thermo h 5 0 100;");
        Check.due("a stubborn one", warm.part(2, 64), 1);
        Check.due("refuses once", warm.command(0, 2, 0), false);
        Check.row("and is stubborn no more", Check.parts(warm, 2, 64, ON), 0, 0);
        Check.due("then not", warm.command(0, 2, 0), true);
        warm.run(1);
        Check.due("too warm", warm.part(2, ON), 0);
        SmallCraft between = Check.flying("tank t 100;reactor r 200 0;thermo h 5 0 200;");
        between.command(0, 2, 0);
        between.command(0, 2, 0);
        between.run(1);
        Check.due("between the two it stays", between.part(2, ON), 1);
    }

    private static void hoses() {
        SmallCraft craft = Check.flying("tank a 100;tank b 10;reactor r 9 1;hose h 1 0 3;");
        craft.run(1);
        Check.row("as much as there is room for", new int[] {craft.part(0, 10), craft.part(1, 10)}, 99, 10);
        SmallCraft even = Check.flying("tank a 50;tank b 50;reactor r 9 1;hose h 0 1 3;");
        even.run(1);
        Check.row("half of one is nothing", new int[] {even.part(0, 10), even.part(1, 10)}, 50, 49);
        even.run(8);
        Check.row("half of two", new int[] {even.part(0, 10), even.part(1, 10)}, 49, 49);
        StringBuilder book = new StringBuilder("tank a 50;tank b 50;");
        for (int i = 0; i < 10; i++) {
            book.append("reactor r").append(i).append(" 9 1;");
        }
        SmallCraft wide = Check.flying(book + "hose h 0 1 1;");
        wide.run(1);
        Check.row("at most its flow", new int[] {wide.part(12, 61), wide.part(0, 10), wide.part(1, 10)}, 2, 48, 42);
    }

    private static void readings() {
        SmallCraft craft = flying("gyro g 5 2 0;panel p 200 0;suneye e 4 3;probe b 4 1 1;recorder r 20;", 0, 2, 3);
        Check.row("noise, shift", new int[] {craft.part(0, 33), craft.part(2, 29), craft.part(3, 38)}, 0, 1, 2);
        craft.run(2);
        Check.row("of tick 0", new int[] {craft.part(0, 32), craft.part(2, 32)}, 0, 1);
        Check.due("a probe, of tick 1", craft.part(3, 32), 199 + 2);
        craft.run(1);
        Check.due("a gyro, of tick 2", craft.part(0, 32), 1);
        SmallCraft blind = flying("suneye e 1 9;battery a 2000;", 0);
        blind.run(361);
        Check.row("a suneye in the dark", Check.parts(blind, 0, 32, ON), 9999, 1);
        SmallCraft eye = flying("suneye e 1 50;battery a 2000;wheel w 1 0;", 0, 2);
        eye.command(2, 1, 0);
        eye.command(3, 0, 1700);
        eye.run(51);
        Check.due("a suneye that has turned", eye.part(0, 32), -156 + 3);
        eye.run(100);
        Check.due("a suneye that looks away", eye.part(0, 32), 9999);
    }

    /** Many suneyes of all widths, while the craft turns slowly past the edge of what each of them sees. */
    private static void edgeOfSuneyes() {
        StringBuilder book = new StringBuilder("panel p 200 0;");
        for (int i = 1; i <= 15; i++) {
            book.append("suneye e").append(i).append(" 1 1;");
        }
        SmallCraft craft = Check.flying(book.toString());
        craft.run(590);
        for (int i = 0; i <= 15; i++) {
            craft.command(4, i, 0);
            craft.command(0, i, 0);
        }
        int met = 0;
        while (craft.craft(1) < 900) {
            int angle = craft.craft(3);
            craft.run(1);
            for (int i = 1; i <= 15; i++) {
                int wide = craft.part(i, 37);
                Check.due("suneye " + i + " at " + angle, craft.part(i, 32), angle < wide ? craft.part(i, 29) - angle : 9999);
                met += angle == wide ? 1 : 0;
            }
        }
        Check.due("the edge was met", met > 0, true);
    }

    private static void camera() {
        SmallCraft craft = flying("recorder r 20;panel p 200 0;camera m 4 3 0;", 2);
        Check.due("lens", craft.part(2, 39), 5);
        craft.run(10);
        Check.row("four pictures fill it", new int[] {craft.part(0, 10), craft.part(2, 40), craft.part(2, 32)}, 20, 4, 253);
        int[] got = new int[22];
        for (int i = 0; i < got.length; i++) {
            got[i] = craft.kept(0, i - 1);
        }
        Check.row("what is kept", got, -1, 244, 245, 246, 247, 248, 247, 248, 249, 250, 251, 250, 251, 252, 253, 254,
            253, 254, 255, 0, 1, -1);
        craft.run(3);
        Check.row("no room for a fifth", new int[] {craft.part(0, 10), craft.part(2, 40), craft.part(2, 32)}, 20, 4, 0);
        Check.due("wiped", craft.command(5, 0, 0), true);
        Check.row("nothing is kept", new int[] {craft.part(0, 10), craft.kept(0, 0)}, 0, -1);
        craft.run(3);
        Check.row("then room again", new int[] {craft.part(0, 10), craft.kept(0, 0), craft.part(2, 40)}, 5, 3, 5);
        Check.fails("kept of unit 3", IndexOutOfBoundsException.class, () -> craft.kept(3, 0));
        Check.fails("kept of unit -1", IndexOutOfBoundsException.class, () -> craft.kept(-1, 0));
        Check.fails("kept of a panel", ILLEGAL, () -> craft.kept(1, 0));
    }

    private static void wheels() {
        SmallCraft craft = flying("wheel w 3 0;panel p 200 0;coil k 3 1;", 0, 2);
        craft.command(2, 1, 0);
        craft.command(3, 0, 320);
        craft.command(3, 1, 320);
        craft.run(1);
        Check.row("tick 0", Check.crafts(craft, 3, 6, 7), 0, 3, 1);
        Check.due("its wheel", craft.part(0, 44), 2);
        craft.run(4);
        Check.row("tick 4", Check.crafts(craft, 3, 6, 7), 1, 5, 1);
        Check.due("its wheel", craft.part(0, 44), 4);
        craft.run(4);
        Check.row("tick 8", Check.crafts(craft, 6, 7, 9, 10), 7, 2, 320, 320);
        SmallCraft sun = flying("wheel w 3 0;panel p 200 0;", 0);
        sun.command(2, 2, 0);
        sun.run(1);
        Check.due("mode 2 without a suneye", sun.part(0, 44), 2);
        SmallCraft eye = flying("wheel w 3 0;panel p 200 0;suneye e 4 3;", 0, 2);
        eye.command(2, 2, 0);
        eye.run(1);
        Check.due("mode 2 with a suneye", eye.part(0, 44), 0);
        SmallCraft idle = flying("wheel w 3 0;panel p 200 0;", 0);
        idle.command(3, 0, 320);
        idle.run(20);
        Check.due("mode 0", idle.part(0, 44), 0);
        SmallCraft back = flying("wheel w 3 2;panel p 200 0;", 0);
        back.command(2, 1, 0);
        back.command(3, 2, 3000);
        back.run(9);
        Check.row("the other way round", new int[] {back.part(0, 44), back.craft(8), back.craft(5)}, -6, -6, 3595);
    }

    private static void jets() {
        SmallCraft craft = flying("tank t 90;wheel w 3 2;jet j 9 2 0;panel p 200 0;", 1, 2);
        craft.command(2, 1, 0);
        craft.command(3, 2, 1790);
        craft.run(100);
        Check.row("ahead of it", new int[] {craft.part(1, 44), craft.part(2, 40), craft.part(0, 10)}, 50, 0, 90);
        craft.run(1);
        Check.row("the jet helps", new int[] {craft.part(1, 44), craft.part(2, 40), craft.part(0, 10)}, 46, 1, 88);
        Check.due("the rate stays", craft.craft(8), 52);
    }

    private static void frames() {
        SmallCraft craft = Check.flying("recorder r 20;");
        craft.run(24);
        Check.row("not yet", new int[] {craft.part(0, 10), craft.craft(18), craft.craft(19)}, 0, 0, 0);
        craft.run(1);
        int[] got = new int[13];
        for (int i = 0; i < got.length; i++) {
            got[i] = craft.kept(0, i);
        }
        Check.row("a frame", got, 165, 0, 24, 0, 0, 100, 0, 0, 0, 0, 0, 138, -1);
        craft.run(25);
        Check.row("a lost one", new int[] {craft.part(0, 10), craft.craft(18), craft.craft(19)}, 12, 1, 1);
        SmallCraft two = flying("recorder r 20;recorder s 20;battery b 100;heater h 1;", 3);
        two.run(50);
        Check.row("the next recorder", new int[] {two.part(0, 10), two.part(1, 10), two.craft(18)}, 12, 12, 2);
        Check.row("charge and loads in it", new int[] {two.kept(0, 4), two.kept(0, 10), two.kept(1, 2)}, 50, 1, 49);
    }

    private static void down() {
        SmallCraft craft = flying("panel p 200 0;recorder r 50;radio d 1 5;battery b 100;", 2);
        craft.run(100);
        Check.row("not in view", new int[] {craft.part(1, 10), craft.craft(20), craft.down(0)}, 48, 0, -1);
        craft.run(1);
        Check.row("in view", new int[] {craft.part(1, 10), craft.craft(20), craft.part(2, 51)}, 43, 5, 5);
        int[] got = {craft.down(-1), craft.down(0), craft.down(1), craft.down(2), craft.down(3), craft.down(4), craft.down(5)};
        Check.row("what went down", got, -1, 100, 0, 24, 0, 165, -1);
        Check.row("what is left", new int[] {craft.kept(1, 0), craft.kept(1, 42), craft.kept(1, 43)}, 100, 196, -1);
        craft.run(340 - 101);
        Check.row("up to tick 219", new int[] {craft.part(1, 10), craft.craft(20), craft.part(2, 51)}, 48, 96, 96);
        Check.row("frames", Check.crafts(craft, 18, 19), 12, 1);
    }

    private static void beacon() {
        SmallCraft craft = Check.flying("beacon n 5 21;panel p 200 0;");
        Check.row("every, rate, stubborn", Check.parts(craft, 0, 31, 50, 64), 11, 11, 1);
        craft.command(0, 0, 0);
        craft.command(0, 0, 0);
        craft.run(1);
        craft.command(2, 2, 0);
        craft.run(11);
        Check.row("its bytes", new int[] {craft.craft(20), craft.down(0), craft.down(1), craft.part(0, 51)}, 2, 50, 48, 2);
    }

    private static void downKeepsFiveHundred() {
        SmallCraft craft = flying("recorder r 2000;panel p 200 0;camera m 4 1 0;radio d 1 40;", 2, 3);
        craft.run(220);
        Check.due("more than are kept", craft.craft(20) > 500, true);
        Check.row("the oldest", new int[] {craft.down(499) == -1 ? 1 : 0, craft.down(500), craft.down(Integer.MAX_VALUE)},
            0, -1, -1);
    }

    private static void commands() {
        SmallCraft craft = Check.flying("tank t 5;recorder r 20;heater h 5;coil k 3 0;");
        Check.due("on", craft.command(0, 2, 0), true);
        Check.due("on, when it is", craft.command(0, 2, 0), true);
        Check.due("off", craft.command(1, 2, 0), true);
        Check.due("off, when it is", craft.command(1, 2, 0), true);
        Check.due("on of a tank", craft.command(0, 0, 0), false);
        Check.due("off of a tank", craft.command(1, 0, 0), false);
        Check.due("mode", craft.command(2, 3, -5), true);
        Check.due("aim", craft.command(3, 2, 3599), true);
        Check.due("wipe", craft.command(5, 1, 0), true);
        Check.due("stop of no item", craft.command(6, 29, 0), true);
        Check.row("mode, aim, done, refused", Check.crafts(craft, 2, 11, 21, 22), 3, 3599, 8, 2);
        Check.row("a stubborn coil", new int[] {craft.part(3, 64), craft.command(0, 3, 0) ? 1 : 0, craft.part(3, 64),
            craft.part(3, ON), craft.command(0, 3, 0) ? 1 : 0, craft.part(3, ON)}, 1, 0, 0, 0, 1, 1);
        int[][] wrong = {{-1, 0, 0}, {7, 0, 0}, {0, -1, 0}, {0, 4, 0}, {1, 4, 0}, {4, 4, 0}, {4, -1, 0}, {5, 4, 0},
            {5, 0, 0}, {5, -1, 0}, {2, -1, 0}, {2, 4, 0}, {3, -1, 0}, {3, 3, 0}, {3, 0, -1}, {3, 0, 3600}, {6, -1, 0},
            {6, 30, 0}, {Integer.MIN_VALUE, 0, 0}, {0, Integer.MAX_VALUE, 0}};
        for (int[] w : wrong) {
            Check.fails("command " + w[0] + " " + w[1] + " " + w[2], ILLEGAL, () -> craft.command(w[0], w[1], w[2]) ? 1 : 0);
        }
        Check.row("those do not count", Check.crafts(craft, 21, 22), 9, 3);
        SmallCraft empty = new SmallCraft();
        for (int act = 0; act <= 6; act++) {
            int a = act;
            Check.fails("command " + a + " without units", ILLEGAL, () -> empty.command(a, 0, 0) ? 1 : 0);
        }
    }

    private static void restarts() {
        SmallCraft craft = Check.flying("tank t 5;coil k 3 0;");
        Check.row("draws, address, reserve, notes", Check.crafts(craft, 12, 13, 14, 15), 4, 2, 3, 7);
        craft.command(0, 1, 0);
        Check.due("restart", craft.command(4, 1, 0), true);
        Check.row("made anew", Check.parts(craft, 1, 1, 2, 4, 64), 1, 5, 2, 1);
        Check.row("they go on", Check.crafts(craft, 12, 13, 14, 15, 23), 6, 3, 6, 11, 1);
        for (int i = 2; i <= 30; i++) {
            Check.due("restart " + i, craft.command(4, 0, 0), true);
        }
        Check.due("restart 31", craft.command(4, 0, 0), false);
        Check.row("restarts, draws, refused", Check.crafts(craft, 23, 12, 22), 30, 6 + 58, 2);
        Check.load(craft, "tank t 5;");
        Check.due("a load allows more", craft.command(4, 0, 0), true);
    }

    private static void items() {
        SmallCraft craft = Check.flying("tank t 5;recorder r 20;heater h 5;");
        Check.plan(craft, "at 0 mode 1;each 3 aim 0 5;when light < 96 mode 2;when rate 0 > 0 stop 4;each 1 on t;each 2 on t;");
        craft.run(10);
        int[][] due = {{1, 0, 0}, {3, 0, 0}, {0, 0, 0}, {1, 0, 0}, {0, 0, 1}, {4, 4, 0}};
        for (int i = 0; i < due.length; i++) {
            Check.row("item " + i, new int[] {craft.item(i, 0), craft.item(i, 1), craft.item(i, 2)}, due[i]);
        }
        Check.row("none such", new int[] {craft.item(-1, 0), craft.item(6, 0), craft.item(0, -1), craft.item(0, 3)}, -1, -1, -1, -1);
        Check.row("done, refused", Check.crafts(craft, 21, 22), 5, 4);
        craft.command(6, 5, 0);
        craft.run(990);
        Check.row("stopped by the ground", new int[] {craft.item(5, 0), craft.item(5, 2)}, 4, 1);
        Check.due("a watch is due once for each time that it comes true", craft.item(2, 0), 2);
        Check.plan(craft, "at 0 mode 1;");
        Check.row("a new plan", new int[] {craft.item(0, 0), craft.craft(24), craft.item(1, 0)}, 0, 1, -1);
        SmallCraft late = Check.flying("tank t 5;");
        Check.plan(late, "each 1 mode 1;when rate 0 > 0 stop 0;at 2 stop 2;when heat t < 200 stop 9;");
        late.run(5);
        Check.row("stopped behind its look", new int[] {late.item(0, 0), late.item(0, 2)}, 1, 1);
        Check.row("stopped by itself", new int[] {late.item(2, 0), late.item(2, 2)}, 1, 1);
        Check.row("a stop of no item", new int[] {late.item(3, 0), late.item(3, 1)}, 1, 0);
    }

    private static void watches() {
        SmallCraft craft = flying("panel p 200 0;recorder r 50;radio d 1 5;wheel w 3 0;gyro g 5 2 0;", 2, 3, 4);
        Check.plan(craft, "when level r > 11 wipe r;when speed w > 3 mode 0;when reading g > 0 restart g;"
            + "when angle 0 > 0 off d;when light < 200 mode 1;when heat p > 500 mode 3;at 0 aim 0 320;");
        craft.run(30);
        int[] due = new int[7];
        for (int i = 0; i < 7; i++) {
            due[i] = craft.item(i, 0);
        }
        Check.row("due", due, 1, 1, 1, 1, 1, 0, 1);
        Check.row("level, mode, restarts, radio", new int[] {craft.part(1, 10), craft.craft(2), craft.craft(23),
            craft.part(2, ON)}, 0, 0, 1, 0);
    }

    private static void crafts() {
        SmallCraft craft = Check.flying("tank t 5;");
        craft.run(1);
        Check.row("for another what", Check.crafts(craft, -1, 28, Integer.MAX_VALUE, Integer.MIN_VALUE), 0, 0, 0, 0);
        Check.row("the first tick turns the craft", Check.crafts(craft, 6, 7, 8), 1, 0, 0);
        craft.run(200);
        Check.row("four of rate make one of angle", Check.crafts(craft, 3, 6), 51, 5);
    }

    public static void main(String[] args) {
        run();
        light();
        panels();
        reactor();
        batteries();
        brownouts();
        heat();
        thermos();
        hoses();
        readings();
        edgeOfSuneyes();
        camera();
        wheels();
        jets();
        frames();
        down();
        beacon();
        downKeepsFiveHundred();
        commands();
        restarts();
        items();
        watches();
        crafts();
        Check.end();
    }
}
