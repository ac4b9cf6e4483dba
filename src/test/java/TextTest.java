/** Promises 1 to 5: a new object, the tape, books and plans as texts, and their faults. */
public final class TextTest {
    private static final Class<IllegalArgumentException> ILLEGAL = IllegalArgumentException.class;

    private static void newObject() {
        SmallCraft craft = new SmallCraft();
        for (int what = -1; what <= 30; what++) {
            Check.due("craft of a new object, " + what, craft.craft(what), 0);
        }
        Check.row("fault of a new object", new int[] {craft.fault(0), craft.fault(1)}, 0, -1);
        Check.due("down of a new object", craft.down(0), -1);
        Check.due("item of a new object", craft.item(0, 0), -1);
        Check.due("at of a new object", craft.at(0), -1);
        Check.fails("load(1) of a new object", ILLEGAL, () -> craft.load(1));
        Check.fails("plan(1) of a new object", ILLEGAL, () -> craft.plan(1));
        Check.fails("run of a new object", IllegalStateException.class, () -> craft.run(1));
        Check.fails("part of a new object", IndexOutOfBoundsException.class, () -> craft.part(0, 0));
        Check.fails("note of a new object", java.util.NoSuchElementException.class, () -> craft.note(0, 0));
    }

    private static void feed() {
        SmallCraft craft = new SmallCraft();
        for (int i = 1; i <= 200; i++) {
            Check.due("feed " + i, craft.feed(0x20202020, 0x20202020, 0x20202020, 0x20202020, 0x20202020), 20 * i);
        }
        Check.due("feed beyond 4000", craft.feed(0, 0, 0, 0, 0), -1);
        Check.fails("load(4001)", ILLEGAL, () -> craft.load(4001));
        Check.due("4000 blanks", craft.load(4000), 0);
        Check.due("feed on the tape that is empty again", craft.feed(0x74616e6b, 0x20742039, 0x303b0000, 0, 0), 20);
        Check.due("the highest byte first", craft.load(10), 1);
        craft.feed(0x74616e6b, 0x20742039, 0x303b20ff, -1, -1);
        Check.due("a byte above 127", craft.load(20), -1);
        Check.row("its place", new int[] {craft.fault(0), craft.fault(1)}, 1, 11);
    }

    private static void load() {
        SmallCraft craft = new SmallCraft();
        Check.type(craft, "tank t 90;");
        Check.fails("load(-1)", ILLEGAL, () -> craft.load(-1));
        Check.fails("load(21)", ILLEGAL, () -> craft.load(21));
        Check.due("the tape has stayed", craft.load(10), 1);
        Check.due("the tape is empty", craft.feed(0, 0, 0, 0, 0), 20);
        Check.due("a fault", craft.load(20), -1);
        Check.due("the tape is empty behind a fault", craft.feed(0, 0, 0, 0, 0), 20);
        Check.due("the units stay", craft.craft(0), 1);
        Check.row("their parts stay", Check.parts(craft, 0, 0, 9, 10), 4, 90, 90);
        craft.load(0);
        Check.due("an empty book has no units", craft.craft(0), 0);
        Check.fails("run without units", IllegalStateException.class, () -> craft.run(0));
    }

    /** What is on the tape behind the text, or was there once, is no part of it. */
    private static void textEnds() {
        SmallCraft craft = new SmallCraft();
        Check.type(craft, "tank t 500;tank u 5;");
        Check.due("a text that ends in a number", craft.load(8), -1);
        Check.row("its fault", new int[] {craft.fault(0), craft.fault(1)}, 2, 8);
        Check.type(craft, "tank t 500;tank u 5;");
        Check.due("a text that ends behind a unit", craft.load(11), 1);
        Check.type(craft, "tank t 500;tank u 5;tank v 5;");
        Check.due("a text that is as long as the tape was", craft.load(20), 2);
        Check.type(craft, "at 5 mode 1;at 6 mode 2;");
        Check.due("a plan that ends", craft.plan(12), 1);
    }

    private static void loadBeginsAnew() {
        SmallCraft craft = Check.flying("tank t 50;recorder rec 20;reactor r 200 0;beacon b 1 9;tracker k 9 2;");
        Check.plan(craft, "at 3 mode 2;at 4 aim 1 77;at 5 restart t;each 9 on t;");
        for (int i = 0; i < 5; i++) {
            craft.command(0, 3, 0);
        }
        craft.run(900);
        Check.due("something went down", craft.craft(20) > 0, true);
        Check.due("the same book again", Check.load(craft, "tank t 50;"), 1);
        Check.row("what a load begins with", Check.crafts(craft, 0, 1, 2, 3, 4, 5, 6, 7, 8, 9, 10, 11), 1, 0, 0, 0, 0,
            0, 0, 0, 0, 0, 0, 0);
        Check.row("what it counts anew", Check.crafts(craft, 12, 13, 14, 15, 16, 17, 18, 19, 20, 21, 22, 23), 2, 1, 0,
            3, 0, 0, 0, 0, 0, 0, 0, 0);
        Check.row("no plan, no tick yet", Check.crafts(craft, 24, 25, 26, 27, 28), 0, 0, 0, 0, 0);
        Check.row("heat, broken", Check.parts(craft, 0, 62, 63), 200, 0);
        Check.due("nothing went down", craft.down(0), -1);
        Check.due("no items", craft.item(0, 0), -1);
    }

    private static void bookTokens() {
        Check.goodBook("", 0);
        Check.goodBook(" \n ", 0);
        Check.goodBook("tank t 90;", 1);
        Check.goodBook("\n tank\n t  90\n;", 1);
        Check.goodBook("tank tank 5;tank t9abcdef 6;", 2);
        Check.goodBook("tank t 00005;gyro g 5 5 -0;battery b 5;", 3);
        Check.goodBook("tank t 5;hose h 0 0 9;tank abcdefgh 7;", 3);
    }

    private static void bookFaults() {
        Check.bookFault("Tank t 5;", 1, 0);
        Check.bookFault("\ttank t 5;", 1, 0);
        Check.bookFault("tank t 5;\0", 1, 9);
        Check.bookFault("abcdefghi", 1, 8);
        Check.bookFault("tank abcdefgh9 5;", 1, 13);
        Check.bookFault("tank t 123456;", 1, 12);
        Check.bookFault("tank t -123456;", 1, 13);
        Check.bookFault("tank t -;", 1, 8);
        Check.bookFault("tank t - 5;", 1, 8);
        Check.bookFault("tank t --5;", 1, 8);
        Check.bookFault("tank t -", 1, 8);
        Check.bookFault("tank t 5.", 1, 8);
        Check.bookFault("boat b 5;", 2, 0);
        Check.bookFault("tanks b 5;", 2, 0);
        Check.bookFault("tan b 5;", 2, 0);
        Check.bookFault("  7", 2, 2);
        Check.bookFault(";", 2, 0);
        Check.bookFault("tank", 2, 4);
        Check.bookFault("tank t 90", 2, 9);
        Check.bookFault("tank t 90  ", 2, 11);
        Check.bookFault("tank 5 5;", 2, 5);
        Check.bookFault("tank t;", 2, 6);
        Check.bookFault("tank t5;", 2, 7);
        Check.bookFault("tank t 5 5;", 2, 9);
        Check.bookFault("tank t 5tank u 5;", 2, 8);
        Check.bookFault("tank t 5<", 2, 8);
        Check.bookFault("tank t x;", 2, 7);
        Check.bookFault("tank t 5;tank t 6;", 3, 14);
        Check.bookFault("tank t 5;tank t -", 3, 14);
        Check.bookFault("tank t-5;A", 5, 6);
        Check.bookFault("tank t 0 A", 5, 7);
        Check.bookFault("tank t 99999;", 5, 7);
    }

    private static String tanks(int count) {
        StringBuilder text = new StringBuilder();
        for (int i = 0; i < count; i++) {
            text.append("tank t").append(i).append(" 5;");
        }
        return text.toString();
    }

    private static void bookTooLong() {
        String twenty = tanks(20);
        Check.goodBook(twenty, 20);
        Check.bookFault(twenty + " tank", 4, twenty.length() + 1);
        Check.bookFault(twenty + "boat", 2, twenty.length());
        Check.bookFault(twenty + "A", 1, twenty.length());
    }

    /** A number of a kind at its edges; what stands ahead and behind it in the line is written out. */
    private static void range(String before, int least, int greatest, String behind) {
        String ahead = "tank t 9;recorder r 20;heater h 9;" + before + " ";
        Check.goodBook(ahead + least + behind + ";", 4);
        Check.goodBook(ahead + greatest + behind + ";", 4);
        Check.bookFault(ahead + (least - 1) + behind + ";", 5, ahead.length());
        Check.bookFault(ahead + (greatest + 1) + behind + ";", 5, ahead.length());
    }

    private static void bookRanges() {
        range("battery x", 1, 2000, "");
        range("cellpack x", 1, 2000, " 1");
        range("cellpack x 1", 1, 8, "");
        range("tank x", 1, 2000, "");
        range("recorder x", 20, 2000, "");
        range("heater x", 1, 50, "");
        range("thermo x", 1, 50, " 0 0");
        range("thermo x 1", 0, 2, " 0");
        range("thermo x 1 0", -300, 900, "");
        for (String kind : new String[] {"gyro", "finegyro"}) {
            range(kind + " x", 1, 50, " 1 0");
            range(kind + " x 1", 1, 50, " 0");
            range(kind + " x 1 1", 0, 2, "");
        }
        range("suneye x", 1, 50, " 1");
        range("suneye x 1", 1, 50, "");
        range("probe x", 1, 50, " 1 0");
        range("probe x 1", 1, 50, " 0");
        range("probe x 1 1", 0, 2, "");
        range("camera x", 1, 50, " 1 1");
        range("camera x 1", 1, 50, " 1");
        range("camera x 1 1", 1, 1, "");
        for (String kind : new String[] {"wheel", "coil"}) {
            range(kind + " x", 1, 50, " 0");
            range(kind + " x 1", 0, 2, "");
        }
        for (String kind : new String[] {"jet", "pulser"}) {
            range(kind + " x", 1, 50, " 0 0");
            range(kind + " x 1", 0, 2, " 0");
            range(kind + " x 1 1", 0, 0, "");
        }
        for (String kind : new String[] {"radio", "beacon"}) {
            range(kind + " x", 1, 50, " 1");
            range(kind + " x 1", 1, 40, "");
        }
        for (String kind : new String[] {"panel", "tracker"}) {
            range(kind + " x", 1, 200, " 0");
            range(kind + " x 1", 0, 3, "");
        }
        range("reactor x", 1, 200, " 0");
        range("reactor x 1", 0, 0, "");
        range("pipe x", 0, 2, " 0");
        range("pipe x 0", 0, 2, "");
        range("hose x", 0, 0, " 0 1");
        range("hose x 0", 0, 0, " 1");
        range("hose x 0 0", 1, 9, "");
        Check.bookFault("thermo x 1 0 0;", 5, 11);
        Check.bookFault("pipe x 0 0;", 5, 7);
    }

    private static void plan() {
        SmallCraft craft = Check.flying(Check.PLANNED);
        Check.type(craft, "at 0 mode 1;");
        Check.fails("plan(-1)", ILLEGAL, () -> craft.plan(-1));
        Check.fails("plan(21)", ILLEGAL, () -> craft.plan(21));
        Check.due("the tape has stayed", craft.plan(12), 1);
        craft.run(1);
        Check.due("it was due", craft.item(0, 0), 1);
        Check.due("a fault", Check.plan(craft, "at 5 mode 2;at"), -1);
        Check.due("the tape is empty behind a fault", craft.feed(0, 0, 0, 0, 0), 20);
        Check.row("the plan stays", new int[] {craft.craft(24), craft.item(0, 0), craft.item(1, 0)}, 1, 1, -1);
        craft.plan(0);
        Check.due("an empty plan has no items", craft.craft(24), 0);
        SmallCraft bare = new SmallCraft();
        Check.due("a plan without units", Check.plan(bare, "at 5 mode 2;when light < 5 stop 3;"), 2);
        Check.due("a name without units", Check.plan(bare, "at 5 on x;"), -1);
        Check.row("its fault", new int[] {bare.fault(0), bare.fault(1)}, 3, 8);
    }

    private static void plansThatAreGood() {
        Check.goodPlan("", 0);
        Check.goodPlan("at 0 on h;at 9999 off bat;each 1 mode 0;each 9999 mode 3;", 4);
        Check.goodPlan("at 1 aim 0 0;at 1 aim 2 3599;at 1 restart bat;at 1 wipe rec;at 1 stop 0;at 1 stop 29;", 6);
        Check.goodPlan("when level bat<-99999 mode 1;when level rec>99999mode 1;when heat h<0 mode 1;", 3);
        Check.goodPlan("when speed w>1 mode 1;when reading g<1 mode 1;when light>1 mode 1;", 3);
        Check.goodPlan("when angle 0<1 mode 1;when angle 2 > 1 mode 1;when rate 0<1 mode 1;when rate 2<1 mode 1;", 4);
    }

    private static void planFaults() {
        Check.planFault("at 5 mode 1;A", 1, 12);
        Check.planFault("at 5 abcdefghi", 1, 13);
        Check.planFault("when light < -x", 1, 14);
        Check.planFault("on h;", 2, 0);
        Check.planFault("5", 2, 0);
        Check.planFault("at mode 1;", 2, 3);
        Check.planFault("at", 2, 2);
        Check.planFault("at 5;", 2, 4);
        Check.planFault("at 5 turn 1;", 2, 5);
        Check.planFault("at 5 mode 1", 2, 11);
        Check.planFault("at 5 mode h;", 2, 10);
        Check.planFault("at 5 on 5;", 2, 8);
        Check.planFault("at 5 mode 1 1;", 2, 12);
        Check.planFault("at 5 aim 1;", 2, 10);
        Check.planFault("when dark < 5 mode 1;", 2, 5);
        Check.planFault("when light 5 mode 1;", 2, 11);
        Check.planFault("when light ; 5 mode 1;", 2, 11);
        Check.planFault("when light < mode 1;", 2, 13);
        Check.planFault("when level 5 < 5 mode 1;", 2, 11);
        Check.planFault("when angle h < 5 mode 1;", 2, 11);
        Check.planFault("at 5 on x;", 3, 8);
        Check.planFault("at 5 on x", 3, 8);
        Check.planFault("at 5 wipe bat;", 3, 10);
        Check.planFault("when level h < 5 mode 1;", 3, 11);
        Check.planFault("when speed h < 5 mode 1;", 3, 11);
        Check.planFault("when reading w < 5 mode 1;", 3, 13);
        Check.planFault("when heat x < 5 mode 1;", 3, 10);
        Check.planFault("at -1 mode 1;", 5, 3);
        Check.planFault("at 10000 mode 1;", 5, 3);
        Check.planFault("each 0 mode 1;", 5, 5);
        Check.planFault("each 10000 mode 1;", 5, 5);
        Check.planFault("at 5 mode 4;", 5, 10);
        Check.planFault("at 5 mode -1;", 5, 10);
        Check.planFault("at 5 aim 3 0;", 5, 9);
        Check.planFault("at 5 aim 0 3600;", 5, 11);
        Check.planFault("at 5 aim 0 -1;", 5, 11);
        Check.planFault("at 5 stop 30;", 5, 10);
        Check.planFault("at 5 stop -1;", 5, 10);
        Check.planFault("when angle 3 < 5 mode 1;", 5, 11);
        Check.planFault("when rate -1 < 5 mode 1;", 5, 10);
    }

    private static void planTooLong() {
        String thirty = "at 5 mode 1;".repeat(30);
        Check.goodPlan(thirty, 30);
        Check.planFault(thirty + "\neach", 4, 361);
        Check.planFault(thirty + "when", 4, 360);
        Check.planFault(thirty + "mode", 2, 360);
        Check.planFault(thirty + "-", 1, 361);
    }

    private static void fault() {
        SmallCraft craft = new SmallCraft();
        Check.load(craft, "tank t 0;");
        Check.row("of a load", new int[] {craft.fault(-1), craft.fault(0), craft.fault(1), craft.fault(2)}, -1, 5, 7, -1);
        Check.fails("load(99)", ILLEGAL, () -> craft.load(99));
        Check.row("a load that throws leaves it", new int[] {craft.fault(0), craft.fault(1)}, 5, 7);
        Check.plan(craft, "at 5 mode");
        Check.row("of a plan", new int[] {craft.fault(0), craft.fault(1)}, 2, 9);
        Check.load(craft, "tank t 5;");
        Check.row("of a good load", new int[] {craft.fault(0), craft.fault(1)}, 0, -1);
    }

    public static void main(String[] args) {
        newObject();
        feed();
        load();
        textEnds();
        loadBeginsAnew();
        bookTokens();
        bookFaults();
        bookTooLong();
        bookRanges();
        plan();
        plansThatAreGood();
        planFaults();
        planTooLong();
        fault();
        Check.end();
    }
}
