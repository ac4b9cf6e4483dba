/** The edges that "Terms" IV (items and acts, once they are read) and promises 7, 15 and 16 name, by sentence. */
public final class PlanEdgesTest {
    private static final Class<IllegalArgumentException> ILLEGAL = IllegalArgumentException.class;
    private static final int LEVEL = 10;
    private static final int ON = 22;
    private static final int BROKEN = 63;
    private static final int STUBBORN = 64;

    private static SmallCraft planned(String book, String plan, int... on) {
        SmallCraft craft = Check.flying(book, on);
        if (Check.plan(craft, plan) == SmallCraft.NONE) {
            throw new IllegalStateException("a fault in the test's own plan: " + plan);
        }
        return craft;
    }

    private static int[] dues(SmallCraft craft) {
        int[] row = new int[craft.craft(24)];
        for (int i = 0; i < row.length; i++) {
            row[i] = craft.item(i, 0);
        }
        return row;
    }

    private static void dueAt(SmallCraft craft, int ticks, int... due) {
        Check.until(craft, ticks);
        Check.row("due, behind " + ticks + " ticks", dues(craft), due);
    }

    // ---- IV. When an item is due
    private static void times() {
        Check.sentence("Terms IV", "An item is DUE: at: t is its number", () -> {
            SmallCraft craft = planned("tank t 1;", "at 0 mode 0;at 1 mode 0;at 5 mode 0;at 9999 mode 0;");
            dueAt(craft, 0, 0, 0, 0, 0);
            dueAt(craft, 1, 1, 0, 0, 0);
            dueAt(craft, 2, 1, 1, 0, 0);
            dueAt(craft, 5, 1, 1, 0, 0);
            dueAt(craft, 6, 1, 1, 1, 0);
            dueAt(craft, 9999, 1, 1, 1, 0);
            dueAt(craft, 10000, 1, 1, 1, 1);
            dueAt(craft, 20100, 1, 1, 1, 1);
            Check.plan(craft, "at 5 mode 0;at 9999 mode 0;");
            dueAt(craft, 20200, 0, 0);
        });
        Check.sentence("Terms IV", "each: t is above 0 and t MOD its number is 0", () -> {
            SmallCraft craft = planned("tank t 1;", "each 1 mode 0;each 2 mode 0;each 7 mode 0;each 9999 mode 0;");
            dueAt(craft, 1, 0, 0, 0, 0);
            dueAt(craft, 2, 1, 0, 0, 0);
            dueAt(craft, 3, 2, 1, 0, 0);
            dueAt(craft, 7, 6, 3, 0, 0);
            dueAt(craft, 8, 7, 3, 1, 0);
            dueAt(craft, 9999, 9998, 4999, 1428, 0);
            dueAt(craft, 10000, 9999, 4999, 1428, 1);
            dueAt(craft, 19998, 19997, 9998, 2856, 1);
            dueAt(craft, 19999, 19998, 9999, 2856, 2);
        });
    }

    private static void watches() {
        Check.sentence("Terms IV", "when: TERM is below (above) its number now", () -> {
            SmallCraft craft = planned("tank t 50;reactor r 9 0;",
                "when light < 100 mode 0;when light < 101 mode 0;when light > 100 mode 0;"
                + "when light > 99 mode 0;when level t < 50 mode 0;when level t < 49 mode 0;when level t > 49 mode 0;"
                + "when level t > 50 mode 0;when rate 0 > 0 mode 0;when rate 0 < 1 mode 0;when rate 0 > -1 mode 0;when rate 0 < 0 mode 0;");
            dueAt(craft, 1, 0, 1, 0, 1, 0, 0, 1, 0, 0, 1, 1, 0);
            dueAt(craft, 2, 0, 1, 0, 1, 1, 0, 1, 0, 1, 1, 1, 0);
            dueAt(craft, 9, 0, 1, 0, 1, 1, 0, 1, 0, 1, 1, 1, 0);
            dueAt(craft, 10, 0, 1, 0, 1, 1, 1, 1, 0, 1, 1, 1, 0);
            dueAt(craft, 340, 0, 1, 0, 1, 1, 1, 1, 0, 1, 1, 1, 0);
            dueAt(craft, 341, 1, 1, 0, 1, 1, 1, 1, 0, 1, 1, 1, 0);
        });
        Check.sentence("Terms IV", "heat NAME | speed NAME (of a WHEEL) | reading NAME (of a SENSOR)", () -> {
            // Ahead of tick 0 they are 200, 0 and 0; ahead of tick 1 199, 2 and the gyro's drift, -3.
            SmallCraft craft = planned("tank t 1;wheel w 1 0;gyro g 1 1 0;panel p 200 0;",
                "when heat t < 200 mode 2;when heat t < 199 mode 2;"
                + "when heat t > 199 mode 2;when heat t > 200 mode 2;when speed w > 0 mode 2;when speed w > 1 mode 2;when speed w > 2 mode 2;"
                + "when reading g < 0 mode 2;when reading g > -1 mode 2;when reading g < -2 mode 2;when reading g < -3 mode 2;", 1, 2);
            craft.command(2, 2, 0);
            dueAt(craft, 1, 0, 0, 1, 0, 0, 0, 0, 0, 1, 0, 0);
            Check.row("values", new int[] {craft.part(0, 62), craft.part(1, 44), craft.part(2, 32)}, 199, 2, -3);
            dueAt(craft, 2, 1, 0, 1, 0, 1, 1, 0, 1, 1, 1, 0);
        });
        Check.sentence("Terms IV", "angle NUMBER | rate NUMBER (0 .. 2).", () -> {
            // Two wheels give axis x a rate of 4 at tick 0: its angle is 1 ahead of tick 1, 2 ahead of tick 2.
            for (int x = 0; x <= 2; x++) {
                StringBuilder plan = new StringBuilder("at 1 mode 0;");
                for (int y = 0; y <= 2; y++) {
                    plan.append("when angle ").append(y).append(" > 1 mode 0;when rate ").append(y).append(" > 3 mode 0;");
                }
                SmallCraft craft = planned("panel p 200 0;wheel v 1 " + x + ";wheel w 1 " + x + ";", plan.toString(), 1, 2);
                craft.command(2, 1, 0);
                craft.command(3, x, 1000);
                int rate = x == 0 ? 5 : 4;
                craft.run(1);
                Check.row("angle and rate", Check.crafts(craft, 3 + x, 6 + x), 1, rate);
                int[] due = {1, 0, 0, 0, 0, 0, 0};
                due[2 + 2 * x] = 1;
                dueAt(craft, 2, due);
                due[1 + 2 * x] = 1;
                dueAt(craft, 3, due);
            }
        });
        Check.sentence("Terms IV",
            "and was not when the item was last looked at (ahead of any look it was not)", () -> {
            SmallCraft craft = planned("tank t 1;",
                "when light > 50 mode 0;when light < 50 mode 0;when light > 100 mode 0;");
            dueAt(craft, 1, 1, 0, 0);
            dueAt(craft, 340, 1, 0, 0);
            dueAt(craft, 350, 1, 0, 0);
            dueAt(craft, 351, 1, 1, 0);
            dueAt(craft, 590, 1, 1, 0);
            dueAt(craft, 591, 2, 1, 0);
            dueAt(craft, 1200, 3, 2, 0);
            Check.plan(craft, "when light > 50 mode 0;");
            dueAt(craft, 1201, 1);
            SmallCraft same = planned("recorder r 20;", "when level r > 11 wipe r;");
            dueAt(same, 25, 0);
            dueAt(same, 26, 1);
            Check.due("wiped", same.part(0, LEVEL), 0);
            dueAt(same, 50, 1);
            dueAt(same, 51, 2);
        });
        Check.sentence("Terms IV", "Items that are stopped are neither looked at nor done.", () -> {
            SmallCraft craft = planned("tank t 1;",
                "at 0 stop 1;each 1 mode 1;each 1 mode 0;at 3 stop 2;at 5 stop 5;each 1 mode 0;when light < 50 mode 0;");
            dueAt(craft, 3, 1, 0, 2, 0, 0, 2, 0);
            dueAt(craft, 5, 1, 0, 3, 1, 0, 4, 0);
            dueAt(craft, 20, 1, 0, 3, 1, 1, 4, 0);
            Check.row("stopped", new int[] {craft.item(0, 2), craft.item(1, 2), craft.item(2, 2), craft.item(5, 2),
                craft.item(6, 2)}, 0, 1, 1, 1, 0);
            Check.row("not done", Check.crafts(craft, 2, 21), 0, 1 + 3 + 1 + 1 + 4);
        });
        Check.sentence("Terms III, step 2", "The items of the plan, in order (part IV).", () -> {
            SmallCraft craft = planned("heater h 1;panel p 200 0;",
                "at 0 mode 1;at 0 mode 2;at 0 on h;at 1 off h;at 1 on h;at 2 on h;at 2 off h;");
            craft.run(1);
            Check.row("the last one stays", new int[] {craft.craft(2), craft.part(0, ON)}, 2, 1);
            craft.run(1);
            Check.due("off, on", craft.part(0, ON), 1);
            craft.run(1);
            Check.due("on, off", craft.part(0, ON), 0);
        });
    }

    // ---- IV. What is done
    private static void switches() {
        Check.sentence("Terms IV",
            "on: a LOAD that is not BROKEN is ON; but a STUBBORN one is STUBBORN no more instead; off: a "
            + "LOAD is OFF", () -> {
            SmallCraft craft = planned("coil k 3 0;heater h 1;panel p 200 0;",
                "at 0 on k;at 0 on h;at 2 on k;at 4 off k;at 4 off h;at 5 off h;");
            Check.row("stubborn", new int[] {craft.part(0, STUBBORN), craft.part(1, STUBBORN)}, 1, 0);
            craft.run(1);
            Check.row("tick 0", new int[] {craft.part(0, ON), craft.part(0, STUBBORN), craft.part(1, ON)}, 0, 0, 1);
            craft.run(2);
            Check.row("tick 2", new int[] {craft.part(0, ON), craft.part(1, ON)}, 1, 1);
            craft.run(3);
            Check.row("ticks 4 and 5", new int[] {craft.part(0, ON), craft.part(1, ON)}, 0, 0);
            Check.row("refused", new int[] {craft.item(0, 1), craft.item(1, 1), craft.item(2, 1), craft.item(3, 1),
                craft.item(5, 1)}, 1, 0, 0, 0, 0);
        });
        Check.sentence("Terms IV",
            "It is REFUSED (and nothing else is done): on of what is no LOAD, BROKEN or STUBBORN; off of "
            + "what is no LOAD", () -> {
            String book = "tank t 9;battery b 9;cellpack c 9 1;recorder r 20;panel p 9 0;tracker q 9 0;reactor s 9 0;pipe i 0 0;hose h 0 0 1;";
            SmallCraft craft = Check.flying(book);
            for (int unit = 0; unit < 9; unit++) {
                int stubborn = craft.part(unit, STUBBORN);
                Check.due("on of unit " + unit, craft.command(0, unit, 0), false);
                Check.due("off of unit " + unit, craft.command(1, unit, 0), false);
                Check.due("it stays as it was", craft.part(unit, STUBBORN), stubborn);
            }
            Check.row("done, refused", Check.crafts(craft, 21, 22), 0, 18);
            SmallCraft hot = Check.flying("heater h 32;tank t 1;panel p 200 0;", 0);
            hot.run(6);
            Check.row("broken", Check.parts(hot, 0, BROKEN, ON), 1, 0);
            Check.due("on of a broken one", hot.command(0, 0, 0), false);
            Check.due("off of a broken one", hot.command(1, 0, 0), true);
            Check.row("still off", Check.parts(hot, 0, BROKEN, ON), 1, 0);
            SmallCraft cold = Check.flying("coil k 1 0;");
            cold.run(600);
            Check.row("broken and stubborn", Check.parts(cold, 0, BROKEN, STUBBORN), 1, 1);
            Check.due("on of it", cold.command(0, 0, 0), false);
            Check.row("nothing else is done", Check.parts(cold, 0, BROKEN, STUBBORN, ON), 1, 1, 0);
            SmallCraft loads = Check.flying("tank t 9;recorder r 20;heater a 1;thermo b 1 0 0;gyro c 1 1 0;finegyro d 1 1 0;suneye e 1 1;probe f 1 1 0;"
                + "camera g 1 1 1;wheel h 1 0;coil i 1 0;jet j 1 0 0;pulser k 1 0 0;radio l 1 1;beacon m 1 1;");
            for (int unit = 2; unit < 15; unit++) {
                boolean stubborn = loads.part(unit, STUBBORN) == 1;
                Check.due("a first on of unit " + unit, loads.command(0, unit, 0), !stubborn);
                Check.due("whether it is on", loads.part(unit, ON), stubborn ? 0 : 1);
                Check.due("a second on of unit " + unit, loads.command(0, unit, 0), true);
                Check.due("off of unit " + unit, loads.command(1, unit, 0), true);
                Check.row("off, not stubborn", Check.parts(loads, unit, ON, STUBBORN), 0, 0);
            }
        });
        Check.sentence("Terms IV", "restart, 30 having been; all others are DONE.", () -> {
            SmallCraft craft = planned("tank t 9;recorder r 20;",
                "each 1 restart t;each 1 mode 1;each 1 aim 0 0;each 1 wipe r;each 1 stop 29;");
            craft.run(31);
            Check.row("thirty", new int[] {craft.item(0, 0), craft.item(0, 1), craft.craft(23)}, 30, 0, 30);
            craft.run(2);
            Check.row("two more", new int[] {craft.item(0, 0), craft.item(0, 1), craft.craft(23)}, 32, 2, 30);
            for (int i = 1; i < 5; i++) {
                Check.row("item " + i, new int[] {craft.item(i, 0), craft.item(i, 1)}, 32, 0);
            }
            Check.row("done, refused", Check.crafts(craft, 21, 22), 30 + 4 * 32, 2);
        });
        Check.sentence("Terms IV", "wipe: what it keeps is gone, its level 0", () -> {
            SmallCraft craft = planned("recorder r 50;recorder s 20;", "at 30 wipe r;at 31 wipe s;at 32 wipe r;");
            craft.run(30);
            Check.row("a frame", new int[] {craft.part(0, LEVEL), craft.kept(0, 0)}, 12, 165);
            craft.run(3);
            Check.row("gone", new int[] {craft.part(0, LEVEL), craft.kept(0, 0), craft.part(1, LEVEL)}, 0, -1, 0);
            Check.row("an empty one, too, is done", new int[] {craft.item(1, 1), craft.item(2, 1)}, 0, 0);
            craft.run(42);
            Check.row("two frames since", new int[] {craft.part(0, LEVEL), craft.kept(0, 2), craft.kept(0, 14)}, 24, 49, 74);
        });
        Check.sentence("Terms IV", "stop: that item is stopped (also one that is not there: nothing).", () -> {
            SmallCraft craft = planned("tank t 9;", "each 1 mode 0;at 2 stop 2;at 1 stop 3;at 1 stop 29;at 2 stop 0;");
            craft.run(1);
            Check.row("none yet", new int[] {craft.item(0, 2), craft.item(2, 2), craft.item(3, 2)}, 0, 0, 0);
            craft.run(4);
            Check.row("stopped", new int[] {craft.item(0, 2), craft.item(1, 2), craft.item(2, 2), craft.item(3, 2),
                craft.item(4, 2)}, 1, 0, 1, 1, 0);
            Check.row("due", dues(craft), 2, 1, 1, 0, 1);
            Check.row("done, refused", Check.crafts(craft, 21, 22), 5, 0);
            Check.due("one that is not there", craft.command(6, 5, 0), true);
            Check.due("the last that could be", craft.command(6, 29, 0), true);
            Check.plan(craft, "each 1 mode 0;".repeat(30));
            craft.run(1);
            Check.row("it was of the plan ahead", new int[] {craft.item(5, 0), craft.item(5, 2), craft.item(29, 0),
                craft.item(29, 2)}, 1, 0, 1, 0);
            Check.due("the last item", craft.command(6, 29, 0), true);
            craft.run(1);
            Check.row("is stopped", new int[] {craft.item(28, 0), craft.item(29, 0), craft.item(29, 2)}, 2, 1, 1);
            SmallCraft itself = planned("tank t 9;", "each 1 stop 0;");
            itself.run(5);
            Check.row("itself", new int[] {itself.item(0, 0), itself.item(0, 2)}, 1, 1);
        });
        Check.sentence("Terms IV", "mode: MODE is that; aim: that aim", () -> {
            SmallCraft craft = planned("tank t 9;",
                "at 0 aim 0 3599;at 0 aim 1 0;at 0 aim 2 1800;at 1 aim 0 0;at 1 mode 3;at 2 mode 0;");
            craft.run(1);
            Check.row("tick 0", Check.crafts(craft, 2, 9, 10, 11), 0, 3599, 0, 1800);
            craft.run(1);
            Check.row("tick 1", Check.crafts(craft, 2, 9, 10, 11), 3, 0, 0, 1800);
            craft.run(1);
            Check.due("tick 2", craft.craft(2), 0);
        });
    }

    // ---- promises 7, 15 and 16
    private static void command() {
        Check.sentence("Promise 7",
            "An act of the ground, as one of the plan, ahead of the next TICK: act 0 on, 1 off, 4 restart, "
            + "5 wipe of unit a; 2 mode a; 3 aim a, b; 6 stop a: true if it is DONE, false if it is REFUSED "
            + "(both count).", () -> {
            SmallCraft craft = planned("recorder r 20;heater h 1;coil k 3 0;tank t 9;", "each 1 mode 0;".repeat(2));
            craft.run(25);
            int done = craft.craft(21);
            Check.due("on", craft.command(0, 1, Integer.MIN_VALUE), true);
            Check.due("it is on at once", craft.part(1, ON), 1);
            Check.due("off", craft.command(1, 1, Integer.MAX_VALUE), true);
            Check.due("mode 3", craft.command(2, 3, -1), true);
            Check.due("mode 0", craft.command(2, 0, 9999), true);
            Check.due("aim", craft.command(3, 0, 0), true);
            Check.due("aim", craft.command(3, 2, 3599), true);
            Check.due("restart", craft.command(4, 3, -7), true);
            Check.due("wipe", craft.command(5, 0, -7), true);
            Check.due("stop", craft.command(6, 0, -7), true);
            Check.due("stop", craft.command(6, 29, -7), true);
            Check.row("all count", Check.crafts(craft, 21, 22, 23), done + 10, 0, 1);
            Check.row("what they did", new int[] {craft.part(0, LEVEL), craft.part(1, ON), craft.item(0, 2),
                craft.item(1, 2), craft.craft(11)}, 0, 0, 1, 0, 3599);
            Check.due("on of a stubborn one", craft.command(0, 2, 0), false);
            Check.due("on of a tank", craft.command(0, 3, 0), false);
            Check.due("off of a tank", craft.command(1, 3, 0), false);
            Check.row("these count, too", Check.crafts(craft, 21, 22), done + 10, 3);
            Check.row("but not for the items", new int[] {craft.item(0, 0), craft.item(0, 1)}, 24, 0);
        });
        Check.sentence("Promise 7", "IllegalArgumentException when there is no such act", () -> {
            SmallCraft craft = Check.flying("recorder r 20;");
            for (int act : new int[] {-1, 7, 8, Integer.MIN_VALUE, Integer.MAX_VALUE}) {
                Check.fails("act " + act, ILLEGAL, () -> craft.command(act, 0, 0) ? 1 : 0);
            }
            Check.row("nothing counts", Check.crafts(craft, 21, 22), 0, 0);
        });
        Check.sentence("Promise 7", "or no such unit, or (wipe) it is no RECORDER", () -> {
            SmallCraft craft = Check.flying("recorder r 20;heater h 1;tank t 9;battery b 9;");
            for (int act : new int[] {0, 1, 4, 5}) {
                for (int unit : new int[] {-1, 4, 19, 20, Integer.MIN_VALUE, Integer.MAX_VALUE}) {
                    Check.fails("act " + act + " of unit " + unit, ILLEGAL, () -> craft.command(act, unit, 0) ? 1 : 0);
                }
            }
            for (int unit = 1; unit <= 3; unit++) {
                int u = unit;
                Check.fails("wipe of unit " + u, ILLEGAL, () -> craft.command(5, u, 0) ? 1 : 0);
            }
            Check.row("nothing counts", Check.crafts(craft, 21, 22, 23), 0, 0, 0);
            Check.due("the last unit", craft.command(4, 3, 0), true);
        });
        Check.sentence("Promise 7", "or a number is out of its range", () -> {
            SmallCraft craft = Check.flying("recorder r 20;");
            int[][] wrong = {{2, -1, 0}, {2, 4, 0}, {3, -1, 0}, {3, 3, 0}, {3, 0, -1}, {3, 0, 3600}, {3, 2, 3600}, {6,
                -1, 0}, {6, 30, 0},
                {2, Integer.MAX_VALUE, 0}, {3, Integer.MIN_VALUE, 0}, {3, 0, Integer.MAX_VALUE}, {6, Integer.MAX_VALUE, 0}};
            for (int[] w : wrong) {
                Check.fails("command " + w[0] + " " + w[1] + " " + w[2], ILLEGAL, () -> craft.command(w[0], w[1],
                    w[2]) ? 1 : 0);
            }
            Check.row("nothing is done", Check.crafts(craft, 2, 9, 10, 11, 21, 22), 0, 0, 0, 0, 0, 0);
            int[][] good = {{2, 0, 0}, {2, 3, 0}, {3, 0, 0}, {3, 2, 3599}, {6, 0, 0}, {6, 29, 0}};
            for (int[] g : good) {
                Check.due("command " + g[0] + " " + g[1] + " " + g[2], craft.command(g[0], g[1], g[2]), true);
            }
        });
        Check.sentence("Promise 7", "or when there are no units.", () -> {
            SmallCraft empty = new SmallCraft();
            for (int act = 0; act <= 6; act++) {
                int a = act;
                Check.fails("act " + a, ILLEGAL, () -> empty.command(a, 0, 0) ? 1 : 0);
            }
            Check.row("nothing is done", Check.crafts(empty, 2, 21, 22), 0, 0, 0);
            SmallCraft craft = Check.flying("tank t 9;");
            craft.load(0);
            Check.fails("behind an empty book", ILLEGAL, () -> craft.command(2, 1, 0) ? 1 : 0);
        });
    }

    private static void item() {
        Check.sentence("Promise 15",
            "Of item i of the plan: what 0 how often it was due, 1 how often REFUSED, 2 whether it is "
            + "stopped (1, 0).", () -> {
            SmallCraft craft = planned("tank t 9;", "each 1 on t;each 2 mode 0;at 3 stop 0;");
            Check.row("ahead of any", new int[] {craft.item(0, 0), craft.item(0, 1), craft.item(0, 2)}, 0, 0, 0);
            craft.run(6);
            Check.row("item 0", new int[] {craft.item(0, 0), craft.item(0, 1), craft.item(0, 2)}, 3, 3, 1);
            Check.row("item 1", new int[] {craft.item(1, 0), craft.item(1, 1), craft.item(1, 2)}, 2, 0, 0);
            Check.row("item 2", new int[] {craft.item(2, 0), craft.item(2, 1), craft.item(2, 2)}, 1, 0, 0);
        });
        Check.sentence("Promise 15", "NONE for another what, or no such item.", () -> {
            SmallCraft craft = planned("tank t 9;", "each 1 on t;".repeat(30));
            craft.run(2);
            for (int what : new int[] {-1, 3, Integer.MIN_VALUE, Integer.MAX_VALUE}) {
                Check.due("what " + what, craft.item(0, what), -1);
            }
            for (int i : new int[] {-1, 30, 31, Integer.MIN_VALUE, Integer.MAX_VALUE}) {
                Check.row("item " + i, new int[] {craft.item(i, 0), craft.item(i, 1), craft.item(i, 2)}, -1, -1, -1);
            }
            Check.row("the last item", new int[] {craft.item(29, 0), craft.item(29, 1), craft.item(29, 2)}, 1, 1, 0);
            Check.plan(craft, "each 1 on t;");
            Check.row("a shorter plan", new int[] {craft.item(0, 0), craft.item(1, 0)}, 0, -1);
            Check.load(craft, "tank t 9;");
            Check.due("no plan", craft.item(0, 0), -1);
            Check.due("a new object", new SmallCraft().item(0, 0), -1);
        });
        Check.sentence("Promise 16",
            "20 bytes that went down, 21 acts DONE, 22 REFUSED, 23 STARTED AGAIN, 24 items of the plan", () -> {
            SmallCraft craft = planned("tank t 9;beacon b 1 1;panel p 200 0;", "at 0 restart t;at 0 on t;", 1);
            int[] before = Check.crafts(craft, 21, 22);
            craft.run(1);
            Check.row("one of each", Check.crafts(craft, 20, 21, 22, 23, 24), 1, before[0] + 1, before[1] + 1, 1, 2);
            craft.plan(0);
            Check.row("a plan of nothing", Check.crafts(craft, 20, 21, 22, 23, 24), 1, before[0] + 1, before[1] + 1, 1, 0);
        });
    }

    private static void counts() {
        Check.sentence("Promise 16",
            "16 BROWNOUTS, 17 FAILURES, 18 frames that were kept, 19 LOST ones, 20 bytes that went down, 21 "
            + "acts DONE, 22 REFUSED, 23 STARTED AGAIN, 24 items of the plan", () -> {
            SmallCraft craft = planned("beacon b 1 1;recorder r 20;tank t 1;tracker p 1 2;battery c 100;",
                "each 1 on b;each 9 on t;each 100 restart t;");
            craft.run(500);
            for (int what = 16; what <= 24; what++) {
                Check.due("craft(" + what + ") is above 0", craft.craft(what) > 0, true);
            }
            int[] before = Check.crafts(craft, 16, 17, 18, 19, 20, 21, 22, 23, 24);
            Check.load(craft, "tank");
            Check.row("all stay behind a fault", Check.crafts(craft, 16, 17, 18, 19, 20, 21, 22, 23, 24), before);
            Check.load(craft, "tank t 9;");
            Check.row("none was since load()", Check.crafts(craft, 16, 17, 18, 19, 20, 21, 22, 23, 24), 0, 0, 0, 0, 0,
                0, 0, 0, 0);
        });
    }

    public static void main(String[] args) {
        times();
        watches();
        switches();
        command();
        item();
        counts();
        Check.end();
    }
}
