import java.util.NoSuchElementException;

/** Promises 3 and 8 to 12: how units are made, and what can be seen of them; the numbers are worked out by hand. */
public final class MakingTest {
    private static final Class<IndexOutOfBoundsException> OUT = IndexOutOfBoundsException.class;
    private static final Class<NoSuchElementException> MISSING = NoSuchElementException.class;

    /** Every kind once; tank 0 and recorder 1 stand ahead for those that need one. */
    private static final String ALL = "tank t 90;recorder rec 50;battery b 100;cellpack c 800 4;heater h 12;"
        + "thermo o 8 0 300;gyro g 5 2 1;finegyro f 5 2 2;suneye e 4 3;probe p 4 3 0;camera m 4 3 1;wheel w 3 1;"
        + "coil k 3 2;jet j 9 1 0;pulser l 9 1 0;radio r 5 20;beacon n 5 21;panel a 90 2;tracker d 90 2;";

    private static void notes(SmallCraft craft, int from, int unit, int... codesAndValues) {
        for (int k = 0; k < codesAndValues.length / 2; k++) {
            int i = from + k;
            int[] got = {craft.note(i, 0), craft.note(i, 1), craft.note(i, 2)};
            Check.row("note " + i, got, unit, codesAndValues[2 * k], codesAndValues[2 * k + 1]);
        }
    }

    private static void asks(SmallCraft craft, int unit, int mass, int span, int need, int test) {
        int[] got = {craft.ask(unit, 0), craft.ask(unit, 1), craft.ask(unit, 2), craft.ask(unit, 3)};
        Check.row("questions of unit " + unit, got, mass, span, need, test);
    }

    /** UNIT asks while room is 0: mass 8, span 1, TEST 1 + 8 + seal 0 - 0. */
    private static void stores() {
        SmallCraft craft = Check.flying("battery b 100;tank t 90;recorder r 50;");
        Check.row("battery", Check.parts(craft, 0, 0, 1, 2, 3, 4, 5, 6), 2, 0, 1, 8, 0, 1, 9);
        Check.row("its store", Check.parts(craft, 0, 7, 8, 9, 10), 10, 1, 100, 75);
        Check.row("its own", Check.parts(craft, 0, 11, 12, 13), 3, 3, 8);
        asks(craft, 0, 18, 3, 8, 9 + 10 - 100 + 9);
        Check.row("tank", Check.parts(craft, 1, 0, 1, 2, 3, 4, 5, 6), 4, 1, 4, 8, 1, 1, 24);
        Check.row("its store", Check.parts(craft, 1, 7, 8, 9, 10, 17), 13, 1, 90, 90, 1);
        asks(craft, 1, 17, 2, 0, (12 + 13 - 90) * 2 - 1);
        Check.row("recorder", Check.parts(craft, 2, 0, 1, 2, 3, 4, 5, 6), 5, 2, 6, 8, 2, 1, 14);
        Check.row("its store", Check.parts(craft, 2, 7, 8, 9, 10), 15, 1, 50, 0);
        Check.row("its own", Check.parts(craft, 2, 18, 19, 20), 5, 25, 7);
        asks(craft, 2, 13, 7, 0, 14 + 15 - 50);
        notes(craft, 0, 0, 0, 9, 1, 1, 2, 8);
        notes(craft, 3, 1, 0, 24, 1, 1, 4, 1);
        notes(craft, 6, 2, 0, 14, 1, 1, 5, 32);
        Check.row("draws, address, reserve, notes", Check.crafts(craft, 12, 13, 14, 15), 7, 3, 0, 9);
        Check.row("stubborn", new int[] {craft.part(0, 64), craft.part(1, 64), craft.part(2, 64)}, 1, 1, 1);
    }

    /** The cellpack's answers are asked by lower layers while cells and pairs are 0. */
    private static void cellpack() {
        SmallCraft craft = Check.flying("cellpack c 800 4;");
        Check.row("parts", Check.parts(craft, 0, 5, 8, 10, 13, 14, 15, 16), 5, 5, 300, 10, 2, 3, 4);
        notes(craft, 0, 0, 0, 9, 1, 5, 2, 0, 3, 303);
    }

    private static void heaters() {
        SmallCraft craft = Check.flying("heater h 12;thermo o 8 0 300;");
        Check.row("heater", Check.parts(craft, 0, 2, 3, 6, 21, 22, 23, 24, 25), 1, 5, 6, 0, 0, 12, 12, 13);
        asks(craft, 0, 7, 1, 15, 6);
        Check.row("thermo", Check.parts(craft, 1, 21, 23, 24, 25, 26, 27, 28), 1, 8, 8, 9, 11, 0, 300);
        notes(craft, 0, 0, 0, 6, 6, 12, 7, 13);
        notes(craft, 3, 1, 0, 8, 6, 8, 7, 9, 8, 8 + 11 - 300);
        Check.due("reserve", craft.craft(14), 20);
        Check.row("stubborn", new int[] {craft.part(0, 64), craft.part(1, 64)}, 0, 1);
    }

    private static void sensors() {
        SmallCraft craft = Check.flying("gyro g 5 2 1;finegyro f 5 2 2;recorder r 20;camera m 4 3 2;");
        Check.row("gyro", Check.parts(craft, 0, 21, 29, 30, 31, 32, 33, 34, 35), 0, 3, 1, 2, 0, 0, 1, 1);
        Check.row("finegyro", Check.parts(craft, 1, 2, 21, 29, 30, 33, 34, 35, 36), 4, 0, 6, 7, 1, 3, 2, 4);
        asks(craft, 1, 6, 8, 12, 9 * 3 + 4);
        Check.due("its channels", craft.ask(1, 4), 7);
        Check.row("camera", Check.parts(craft, 3, 2, 27, 29, 30, 39, 40), 10, 2, 12 % 7, 3, 4, 0);
        asks(craft, 3, 5, 8, 7, 15);
        Check.due("its channels", craft.ask(3, 4), 7);
        SmallCraft eyes = Check.flying("suneye e 4 3;probe p 4 3 0;");
        Check.row("suneye", Check.parts(eyes, 0, 29, 30, 37), 3, 2, 720);
        Check.row("probe", Check.parts(eyes, 1, 27, 29, 30, 38), 0, 6, 1, 4);
        Check.due("a probe's channels", eyes.ask(1, 4), 5);
        notes(eyes, 0, 0, 0, 6, 6, 4, 9, 2, 12, 720);
        notes(eyes, 4, 1, 0, 9, 6, 4, 9, 1, 13, 4);
    }

    private static void actuators() {
        SmallCraft craft = Check.flying("tank t 90;wheel w 3 1;coil k 3 2;jet j 9 1 0;pulser l 9 2 0;");
        Check.row("wheel", Check.parts(craft, 1, 2, 35, 41, 42, 43, 44), 3, 1, 2, 2, 203, 0);
        Check.due("its push", craft.ask(1, 5), 4);
        Check.row("coil", Check.parts(craft, 2, 35, 41, 42, 45, 46), 2, 3, 7, 6, 7);
        Check.row("jet", Check.parts(craft, 3, 2, 27, 35, 40, 41, 42, 47), 7, 0, 1, 0, 4, 5, 1);
        Check.due("its push", craft.ask(3, 5), 10);
        Check.row("pulser", Check.parts(craft, 4, 2, 41, 42, 47, 48, 5), 10, 2, 6 * 2 / 2 + 2, 1, 2, 3);
        notes(craft, 3, 1, 0, 8, 6, 3, 15, 0, 16, 201);
        notes(craft, 7, 2, 0, 10, 6, 3, 15, -2, 17, 7);
        notes(craft, 11, 3, 0, 12, 6, 9, 15, 1, 18, 10);
        notes(craft, 15, 4, 0, 15, 6, 9, 15, 1, 18, 6, 19, 8);
    }

    private static void radiosAndSources() {
        SmallCraft craft = Check.flying("tank t 90;radio r 5 20;beacon n 5 21;tracker d 90 2;panel a 90 3;reactor q 200 0;");
        Check.row("radio", Check.parts(craft, 1, 4, 5, 49, 50, 51), 1, 2, 3, 20, 0);
        Check.row("beacon", Check.parts(craft, 2, 4, 5, 31, 49, 50, 51), 3, 2, 10, 7, 11, 0);
        Check.due("a radio's span", craft.ask(1, 1), 2);
        Check.due("a beacon's span", craft.ask(2, 1), 3);
        Check.row("tracker", Check.parts(craft, 3, 2, 5, 43, 52, 53, 54, 55, 56), 7, 6, 90, 2, 20, 2, 5, 1820);
        asks(craft, 3, 9, 8, 3, 12);
        Check.row("panel", Check.parts(craft, 4, 2, 5, 43, 52, 53, 54), 9, 1, 90, 1, 10, 3);
        asks(craft, 4, 9, 4, 0, 14);
        Check.row("reactor", Check.parts(craft, 5, 2, 27, 43, 52, 57), 11, 0, 200, 0, 10);
        asks(craft, 5, 15, 1, 0, 26);
        notes(craft, 3, 1, 0, 8, 6, 5, 20, 3);
        notes(craft, 6, 2, 0, 10, 6, 5, 20, 7, 21, 11);
        notes(craft, 10, 3, 0, 12, 22, 9, 23, 22, 24, 1820);
        notes(craft, 14, 4, 0, 14, 22, 9, 23, 13);
        notes(craft, 17, 5, 0, 16, 22, 15, 25, 10);
    }

    private static void links() {
        SmallCraft craft = Check.flying("tank t 9;tank u 9;pipe p 1 0;hose h 1 0 9;");
        Check.row("pipe", Check.parts(craft, 2, 2, 3, 58, 59, 60, 61), 5, 5, 1, 1, 0, 3);
        asks(craft, 2, 8, 2, 0, 10);
        Check.row("hose", Check.parts(craft, 3, 2, 3, 58, 59, 60, 61), 7, 5, 1, 1, 0, 10);
        asks(craft, 3, 5, 2, 0, 2);
        notes(craft, 6, 2, 0, 10, 26, 1, 27, 3);
        notes(craft, 9, 3, 0, 12, 26, 1, 28, 11);
    }

    private static final int[][] OWNERS = {
        {7, 0, 1, 2, 3}, {8, 0, 1, 2, 3}, {9, 0, 1, 2, 3}, {10, 0, 1, 2, 3}, {11, 2, 3}, {12, 2, 3}, {13, 2, 3},
        {14, 3}, {15, 3}, {16, 3}, {17, 0}, {18, 1}, {19, 1}, {20, 1},
        {21, 4, 5, 6, 7, 8, 9, 10, 11, 12, 13, 14, 15, 16}, {22, 4, 5, 6, 7, 8, 9, 10, 11, 12, 13, 14, 15, 16},
        {23, 4, 5, 6, 7, 8, 9, 10, 11, 12, 13, 14, 15, 16}, {24, 4, 5, 6, 7, 8, 9, 10, 11, 12, 13, 14, 15, 16},
        {25, 4, 5}, {26, 5}, {27, 5, 9, 10, 13, 14}, {28, 5}, {29, 6, 7, 8, 9, 10}, {30, 6, 7, 8, 9, 10},
        {31, 6, 7, 8, 9, 10, 16}, {32, 6, 7, 8, 9, 10}, {33, 6, 7}, {34, 6, 7}, {35, 6, 7, 11, 12, 13, 14}, {36, 7},
        {37, 8}, {38, 9}, {39, 10}, {40, 10, 13, 14}, {41, 11, 12, 13, 14}, {42, 11, 12, 13, 14}, {43, 11, 17, 18},
        {44, 11}, {45, 12}, {46, 12}, {47, 13, 14}, {48, 14}, {49, 15, 16}, {50, 15, 16}, {51, 15, 16}, {52, 17, 18},
        {53, 17, 18}, {54, 17, 18}, {55, 18}, {56, 18}, {57}, {58}, {59}, {60}, {61}
    };

    private static boolean has(SmallCraft craft, int unit, int what) {
        try {
            craft.part(unit, what);
            return true;
        } catch (NoSuchElementException e) {
            return false;
        }
    }

    private static void whoHasAPart() {
        SmallCraft craft = Check.flying(ALL);
        int[] codes = {4, 5, 2, 3, 7, 8, 10, 11, 12, 13, 14, 16, 17, 18, 19, 20, 21, 23, 24};
        for (int unit = 0; unit < codes.length; unit++) {
            Check.due("the code of unit " + unit, craft.part(unit, 0), codes[unit]);
            for (int what : new int[] {0, 1, 2, 3, 4, 5, 6, 62, 63, 64}) {
                Check.due("unit " + unit + " has " + what, has(craft, unit, what), true);
            }
            for (int[] row : OWNERS) {
                boolean owns = false;
                for (int k = 1; k < row.length; k++) {
                    owns |= row[k] == unit;
                }
                Check.due("unit " + unit + " has " + row[0], has(craft, unit, row[0]), owns);
            }
            for (int what : new int[] {-1, 65, Integer.MAX_VALUE, Integer.MIN_VALUE}) {
                Check.due("unit " + unit + " has " + what, has(craft, unit, what), false);
            }
        }
        SmallCraft links = Check.flying("tank t 9;reactor r 5 0;pipe p 0 0;hose h 0 0 1;");
        for (int what = 57; what <= 61; what++) {
            int[] got = new int[4];
            for (int unit = 0; unit < 4; unit++) {
                got[unit] = has(links, unit, what) ? 1 : 0;
            }
            Check.row("who has " + what, got, 0, what == 57 ? 1 : 0, what == 57 ? 0 : 1, what == 57 ? 0 : 1);
        }
        Check.row("a reactor's of and most", Check.parts(links, 1, 27, 43), 0, 5);
        Check.fails("part of unit -1", OUT, () -> craft.part(-1, 0));
        Check.fails("part of unit 19", OUT, () -> craft.part(19, 99));
        Check.fails("part 17 of a recorder", MISSING, () -> craft.part(1, 17));
    }

    private static void ask() {
        SmallCraft craft = Check.flying(ALL);
        for (int unit = 0; unit < 19; unit++) {
            int u = unit;
            if (unit < 6 || unit > 10) {
                Check.fails("channels of " + unit, MISSING, () -> craft.ask(u, 4));
            }
            if (unit < 11 || unit > 14) {
                Check.fails("push of " + unit, MISSING, () -> craft.ask(u, 5));
            }
            Check.fails("question -1", MISSING, () -> craft.ask(u, -1));
            Check.fails("question 6", MISSING, () -> craft.ask(u, 6));
        }
        Check.fails("ask of unit -1", OUT, () -> craft.ask(-1, 0));
        Check.fails("ask of unit 19", OUT, () -> craft.ask(19, 9));
    }

    private static void noteAndAt() {
        SmallCraft craft = Check.flying("battery b 100;cellpack c 9 1;heater h 1;");
        Check.row("at", new int[] {craft.at(-1), craft.at(0), craft.at(1), craft.at(5), craft.at(6), craft.at(7)}, -1, 0,
            1, 1, 2, -1);
        Check.row("far", new int[] {craft.at(Integer.MAX_VALUE), craft.at(Integer.MIN_VALUE)}, -1, -1);
        Check.fails("note -1", MISSING, () -> craft.note(-1, 0));
        Check.fails("note 10", MISSING, () -> craft.note(10, 0));
        Check.fails("what -1", MISSING, () -> craft.note(0, -1));
        Check.fails("what 3", MISSING, () -> craft.note(0, 3));
        for (int i = 0; i < 30; i++) {
            craft.command(4, 0, 0);
        }
        Check.row("the notes go on", Check.crafts(craft, 12, 13, 15, 23), 3 + 3 + 2 + 90, 7 + 30, 10 + 90, 30);
        Check.due("the last of a hundred", craft.note(99, 1), 2);
        Check.fails("note 100", MISSING, () -> craft.note(100, 0));
        Check.row("the unit moved on", new int[] {craft.at(0), craft.at(35), craft.at(36), craft.at(37)}, -1, -1, 0, -1);
        SmallCraft more = Check.flying("cellpack c 9 1;");
        for (int i = 0; i < 30; i++) {
            more.command(4, 0, 0);
        }
        Check.due("more notes than are kept", more.craft(15), 124);
        Check.due("the last that is kept", more.note(99, 1), 3);
        Check.fails("one that is not kept", MISSING, () -> more.note(100, 0));
    }

    private static void name() {
        SmallCraft craft = Check.flying("tank ab9 5;tank abcdefgh 5;");
        int[] got = new int[10];
        for (int k = 0; k < 10; k++) {
            got[k] = craft.name(1, k);
        }
        Check.row("the letters", got, 'a', 'b', 'c', 'd', 'e', 'f', 'g', 'h', -1, -1);
        Check.row("a short name", new int[] {craft.name(0, 2), craft.name(0, 3)}, '9', -1);
        Check.due("far behind its end", craft.name(0, Integer.MAX_VALUE), -1);
        Check.fails("letter -1", OUT, () -> craft.name(0, -1));
        Check.fails("unit 2", OUT, () -> craft.name(2, 0));
        Check.fails("unit -1", OUT, () -> craft.name(-1, 0));
    }

    public static void main(String[] args) {
        stores();
        cellpack();
        heaters();
        sensors();
        actuators();
        radiosAndSources();
        links();
        whoHasAPart();
        ask();
        noteAndAt();
        name();
        Check.end();
    }
}
