/** The edges that "Terms" I (the tape, tokens, a book), IV (a plan's text) and promises 1 to 5 name, by sentence. */
public final class TextEdgesTest {
    private static final Class<IllegalArgumentException> ILLEGAL = IllegalArgumentException.class;
    private static final int BLANKS = 0x20202020;

    private static void row(String what, SmallCraft craft, int code, int place) {
        Check.row(what, new int[] {craft.fault(0), craft.fault(1)}, code, place);
    }

    private static int blanks(SmallCraft craft, int times) {
        int size = 0;
        for (int i = 0; i < times; i++) {
            size = craft.feed(BLANKS, BLANKS, BLANKS, BLANKS, BLANKS);
        }
        return size;
    }

    private static String tanks(int count) {
        StringBuilder text = new StringBuilder();
        for (int i = 0; i < count; i++) {
            text.append("tank t").append(i).append(" 5;");
        }
        return text.toString();
    }

    // ---- I. The tape and its tokens
    private static void tape() {
        Check.sentence("Terms I", "THE TAPE has at most 4000 bytes.", () -> {
            SmallCraft craft = new SmallCraft();
            Check.due("199 feeds", blanks(craft, 199), 3980);
            Check.type(craft, "           tank t 5;");
            Check.due("none beyond them", craft.feed(0, 0, 0, 0, 0), -1);
            Check.due("the last of 4000 bytes is read", craft.load(4000), 1);
        });
        Check.sentence("Terms I", "TOKENS are taken as long as they go", () -> {
            Check.bookFault("tank t5;", 2, 7);
            Check.bookFault("tankt 5;", 2, 0);
            Check.bookFault("tank t 1 2;", 2, 9);
            Check.bookFault("tank t 5x;", 2, 8);
            Check.goodBook("tank t 12;", 1);
            Check.goodPlan("at 5mode 1;when light<5mode 1;when light>-5mode 1;", 3);
            SmallCraft craft = Check.flying("tank ab 1234;");
            Check.row("one word, one number", new int[] {craft.name(0, 1), craft.part(0, 9)}, 'b', 1234);
        });
        Check.sentence("Terms I", "with BLANKS (32, 10) between them as one likes", () -> {
            Check.goodBook("tank t 5;tank u 5;", 2);
            Check.goodBook("\n \n tank\nt  5\n\n; \ntank \n u\n 5 ; \n", 2);
            Check.goodBook("   ", 0);
            for (int b = 0; b < 48; b++) {
                if (b != 32 && b != 10 && b != '-') {
                    Check.bookFault("tank t" + (char) b + "5;", 1, 6);
                }
            }
            Check.bookFault("tank t\u00a05;", 1, 6);
            Check.bookFault("tank t\u00855;", 1, 6);
        });
    }

    private static void words() {
        Check.sentence("Terms I", "WORDS (a letter a .. z, then such and digits, 8 at most)", () -> {
            for (int b = 0; b < 256; b++) {
                boolean letter = b >= 'a' && b <= 'z';
                boolean digit = b >= '0' && b <= '9';
                boolean token = digit || b == ';' || b == '<' || b == '>';
                if (letter) {
                    Check.goodBook("tank " + (char) b + " 5;", 1);
                } else if (b != ' ' && b != '\n') {
                    Check.bookFault("tank " + (char) b + " 5;", token ? 2 : 1, b == '-' ? 6 : 5);
                }
                if (letter || digit) {
                    Check.goodBook("tank x" + (char) b + " 5;", 1);
                }
            }
            Check.goodBook("tank abcdefgh 5;", 1);
            Check.goodBook("tank a2345678 5;", 1);
            Check.bookFault("tank abcdefghi 5;", 1, 13);
        });
        Check.sentence("Terms I", "NUMBERS (perhaps - , then 1 to 5 digits)", () -> {
            Check.goodBook("tank t 1;", 1);
            Check.goodBook("tank t 00001;", 1);
            Check.goodBook("tank t 02000;", 1);
            Check.goodBook("gyro g 5 5 -0;", 1);
            Check.goodBook("tank t 5;thermo o 5 0 -300;", 2);
            Check.goodBook("tank t 5;thermo o 5 0 -00300;", 2);
            Check.bookFault("tank t -99999;", 5, 7);
            Check.bookFault("tank t 000001;", 1, 12);
            Check.bookFault("tank t +1;", 1, 7);
            for (int digit = 0; digit <= 9; digit++) {
                Check.due("the number 1" + digit, Check.flying("tank t 1" + digit + ";").part(0, 9), 10 + digit);
            }
            Check.due("of three digits", Check.flying("tank t 5;thermo o 5 0 -289;").part(1, 28), -289);
        });
        Check.sentence("Terms I", "SIGNS ; < >", () -> {
            Check.goodPlan("when light < 5 mode 1;when light > 5 mode 1;", 2);
            Check.bookFault("tank t 5<", 2, 8);
            Check.bookFault("tank t 5>", 2, 8);
            for (char sign : ":=?,.!".toCharArray()) {
                Check.bookFault("tank t 5" + sign, 1, 8);
                Check.planFault("when light " + sign + " 5 mode 1;", 1, 11);
            }
        });
    }

    private static void textFaults() {
        Check.sentence("Terms I", "1 a byte by which no TOKEN can go on or begin (the 9th byte of a WORD", () -> {
            Check.bookFault("abcdefghi", 1, 8);
            Check.bookFault("tank abcdefgh0 5;", 1, 13);
            Check.goodBook("tank abcdefgh\n5;", 1);
            Check.bookFault("tank abcdefgh;", 2, 13);
            Check.bookFault("tank abcdefghA", 1, 13);
            Check.bookFault("tank abcdefgh-", 1, 14);
            Check.planFault("at 5 on abcdefghi;", 1, 16);
        });
        Check.sentence("Terms I", "the 6th digit", () -> {
            Check.bookFault("tank t 123456;", 1, 12);
            Check.bookFault("tank t -123456;", 1, 13);
            Check.bookFault("123456", 1, 5);
            Check.bookFault("12345 6", 2, 0);
            Check.bookFault("tank t 00005 6;", 2, 13);
            Check.planFault("at 000001 mode 1;", 1, 8);
        });
        Check.sentence("Terms I", "what is behind a - and no digit", () -> {
            Check.bookFault("-", 1, 1);
            Check.bookFault("tank t -;", 1, 8);
            Check.bookFault("tank t - 5;", 1, 8);
            Check.bookFault("tank t --5;", 1, 8);
            Check.bookFault("tank t -x;", 1, 8);
            Check.bookFault("tank t -\n", 1, 8);
            Check.bookFault("tank t -", 1, 8);
            Check.bookFault("tank t -/", 1, 8);
            Check.bookFault("tank t -:", 1, 8);
            Check.planFault("when light < -;", 1, 14);
        });
        Check.sentence("Terms I",
            "2 a TOKEN that can't stand there (the end, too: its place is the text's length)", () -> {
            for (int n : new int[] {4, 5, 6, 7, 8, 9}) {
                Check.bookFault("tank t  5;".substring(0, n), 2, n);
            }
            Check.bookFault("tank t 5 \n ", 2, 11);
            SmallCraft craft = new SmallCraft();
            Check.type(craft, "tank t 55;tank u 5;");
            Check.due("the text ends ahead of the tape", craft.load(8), -1);
            row("its end", craft, 2, 8);
            for (int n : new int[] {4, 5, 10, 11, 12, 13, 17, 18, 19}) {
                Check.planFault("when light<7 mode 1;".substring(0, n), 2, n);
            }
        });
        Check.sentence("Terms I", "Places are bytes from 0 on; of a TOKEN that of its first byte.", () -> {
            Check.bookFault("boat b 5;", 2, 0);
            Check.bookFault("\n \nboat b 5;", 2, 3);
            Check.bookFault("tank t -2000;", 5, 7);
            Check.bookFault("tank toto 5;tank  toto 5;", 3, 18);
            Check.bookFault("\u00ff", 1, 0);
        });
        Check.sentence("Terms I",
            "FAULTS of a text, the first as TOKENS are taken one by one (each is read as it is wanted)", () -> {
            Check.bookFault("tank t 0 A", 5, 7);
            Check.bookFault("tank t 5;tank t A", 3, 14);
            Check.bookFault("boat A", 2, 0);
            Check.bookFault("tank t 5;A tank t 0;", 1, 9);
            Check.bookFault("cellpack c 0 9;", 5, 11);
            Check.bookFault("cellpack c 1 9 A", 5, 13);
            Check.planFault("at 5 on x A", 3, 8);
            Check.planFault("at -1 A", 5, 3);
            Check.planFault("at 5 aim 3 A", 5, 9);
        });
    }

    // ---- I. A book
    private static final String[] LINES = {"battery x 9;", "cellpack x 9 8;", "tank x 9;", "recorder x 20;", "heater x 9;",
        "thermo x 9 0 0;", "gyro x 9 9 0;", "finegyro x 9 9 0;", "suneye x 9 9;", "probe x 9 9 0;", "camera x 9 9 1;",
        "wheel x 9 0;", "coil x 9 0;", "jet x 9 0 0;", "pulser x 9 0 0;", "radio x 9 9;", "beacon x 9 9;", "panel x 9 0;",
        "tracker x 9 0;", "reactor x 9 0;", "pipe x 0 0;", "hose x 0 0 9;"};
    private static final int[] CODES = {2, 3, 4, 5, 7, 8, 10, 11, 12, 13, 14, 16, 17, 18, 19, 20, 21, 23, 24, 25, 27, 28};

    private static void book() {
        Check.sentence("Terms I", "A BOOK: {KIND NAME {NUMBER} ;}.", () -> {
            Check.goodBook("", 0);
            Check.goodBook("tank t 5;", 1);
            Check.goodBook("tank t 5;tank u 5;", 2);
            Check.bookFault("tank t 5", 2, 8);
            Check.bookFault("tank t 5;;", 2, 9);
            Check.bookFault("tank ; 5;", 2, 5);
        });
        Check.sentence("Terms I", "KIND: one of the 22 words below.", () -> {
            Check.due("kinds", LINES.length, 22);
            for (int i = 0; i < LINES.length; i++) {
                SmallCraft craft = Check.flying("tank t 9;recorder r 20;" + LINES[i]);
                Check.due("the layer of " + LINES[i], craft.part(2, 0), CODES[i]);
                Check.bookFault("tank t 9;recorder r 20;a" + LINES[i].substring(1), 2, 23);
                Check.bookFault("tank t 9;recorder r 20;" + LINES[i].substring(1), 2, 23);
                int end = LINES[i].indexOf(' ');
                Check.bookFault("tank t 9;recorder r 20;" + LINES[i].substring(0, end - 1) + " x 9;", 2, 23);
                if (end < 8) {
                    Check.bookFault("tank t 9;recorder r 20;" + LINES[i].substring(0, end) + "s x 9;", 2, 23);
                }
            }
            for (String layer : new String[] {"unit", "store", "load", "sensor", "actuator", "source", "link", "generato"}) {
                Check.bookFault(layer + " x 9;", 2, 0);
            }
        });
        Check.sentence("Terms I", "NAME: a WORD (3 if a unit ahead has it).", () -> {
            Check.bookFault("tank t 5;tank t 6;", 3, 14);
            Check.bookFault("tank t 5;tank u 5;tank u 6;", 3, 23);
            Check.bookFault("tank abcdefgh 5;battery abcdefgh 6;", 3, 24);
            Check.goodBook("tank abcdefgh 5;tank abcdefgg 6;tank bbcdefgh 7;tank abcdefg 8;", 4);
            Check.goodBook("tank t 5;tank t0 6;tank tt 6;", 3);
            Check.goodBook("tank tank 5;", 1);
            String nineteen = tanks(19);
            Check.bookFault(nineteen + "tank t18 5;", 3, nineteen.length() + 5);
            Check.bookFault(nineteen + "tank t0 5;", 3, nineteen.length() + 5);
            Check.bookFault("tank 5 5;", 2, 5);
            SmallCraft craft = Check.flying("tank t 5;");
            Check.due("a name of the book ahead is free", Check.load(craft, "tank t 6;"), 1);
        });
        Check.sentence("Terms I",
            "Then as many NUMBERS as the KIND has, each from .. to as told (5 if it is not).", () -> {
            for (String line : LINES) {
                String ahead = "tank t 9;recorder r 20;" + line.substring(0, line.length() - 1);
                Check.goodBook(ahead + ";", 3);
                Check.bookFault(ahead + " 9;", 2, ahead.length() + 1);
                int last = ahead.lastIndexOf(' ');
                Check.bookFault(ahead.substring(0, last) + ";", 2, last);
                Check.bookFault(ahead.substring(0, last) + " x;", 2, last + 1);
                Check.bookFault(ahead.substring(0, last) + " 9999;", 5, last + 1);
                Check.bookFault(ahead.substring(0, last) + " -9999;", 5, last + 1);
            }
        });
        Check.sentence("Terms I", "4: the 21st KIND.", () -> {
            String twenty = tanks(20);
            Check.goodBook(tanks(19), 19);
            Check.goodBook(twenty, 20);
            Check.goodBook(twenty + " \n", 20);
            Check.bookFault(tanks(21), 4, twenty.length());
            Check.bookFault(twenty + " tank", 4, twenty.length() + 1);
            Check.bookFault(twenty + "hose t0 9 9 9;", 4, twenty.length());
            Check.bookFault(twenty + "boat", 2, twenty.length());
            Check.bookFault(twenty + "A", 1, twenty.length());
            Check.due("unit 19 is there", Check.flying(twenty).part(19, 1), 19);
        });
    }

    // ---- IV. A plan's text
    private static void planTexts() {
        Check.sentence("Terms IV", "A PLAN: {ITEM}, at most 30 (4: the 31st, at its first TOKEN).", () -> {
            String thirty = "at 5 mode 1;".repeat(30);
            Check.goodPlan("", 0);
            Check.goodPlan(" \n", 0);
            Check.goodPlan("at 5 mode 1;".repeat(29), 29);
            Check.goodPlan(thirty, 30);
            Check.goodPlan(thirty + "\n", 30);
            Check.planFault("at 5 mode 1;".repeat(31), 4, 360);
            Check.planFault(thirty + " \neach", 4, 362);
            Check.planFault(thirty + "when dark", 4, 360);
            Check.planFault(thirty + "at A", 4, 360);
            Check.planFault(thirty + "mode 1;", 2, 360);
            Check.planFault(thirty + ";", 2, 360);
            Check.planFault(thirty + "A", 1, 360);
        });
        Check.sentence("Terms IV", "at NUMBER ACT ; (0 .. 9999)", () -> {
            Check.goodPlan("at 0 mode 1;at 9999 mode 1;", 2);
            Check.planFault("at -1 mode 1;", 5, 3);
            Check.planFault("at 10000 mode 1;", 5, 3);
            Check.planFault("at mode 1;", 2, 3);
            Check.planFault("at 5 5 mode 1;", 2, 5);
            Check.planFault("at 5;", 2, 4);
            Check.planFault("at 5 mode 1 at", 2, 12);
        });
        Check.sentence("Terms IV", "each NUMBER ACT ; (1 .. 9999)", () -> {
            Check.goodPlan("each 1 mode 1;each 9999 mode 1;", 2);
            Check.planFault("each 0 mode 1;", 5, 5);
            Check.planFault("each -1 mode 1;", 5, 5);
            Check.planFault("each 10000 mode 1;", 5, 5);
            Check.planFault("each mode 1;", 2, 5);
        });
        Check.sentence("Terms IV", "when TERM < NUMBER ACT ; | when TERM > NUMBER ACT ; .", () -> {
            Check.goodPlan("when light < -99999 mode 1;when light > 99999 mode 1;", 2);
            Check.planFault("when light ; 5 mode 1;", 2, 11);
            Check.planFault("when light 5 mode 1;", 2, 11);
            Check.planFault("when light < mode 1;", 2, 13);
            Check.planFault("when light < 5 < 5 mode 1;", 2, 15);
            Check.planFault("when < 5 mode 1;", 2, 5);
            Check.planFault("when dark < 5 mode 1;", 2, 5);
            Check.planFault("when 5 < 5 mode 1;", 2, 5);
            Check.planFault("wheny light < 5 mode 1;", 2, 0);
        });
        Check.sentence("Terms IV",
            "TERM: level NAME (of a STORE) | heat NAME | speed NAME (of a WHEEL) | reading NAME (of a "
            + "SENSOR)", () -> {
            String[] units = {"bat", "rec", "w", "g", "h"};
            named("when level ", " < 5 mode 1;", units, 1, 1, 0, 0, 0);
            named("when heat ", " < 5 mode 1;", units, 1, 1, 1, 1, 1);
            named("when speed ", " < 5 mode 1;", units, 0, 0, 1, 0, 0);
            named("when reading ", " < 5 mode 1;", units, 0, 0, 0, 1, 0);
            for (String term : new String[] {"level", "heat", "speed", "reading"}) {
                Check.planFault("when " + term + " x < 5 mode 1;", 3, 6 + term.length());
                Check.planFault("when " + term + " 2 < 5 mode 1;", 2, 6 + term.length());
                Check.planFault("when " + term + " < 5 mode 1;", 2, 6 + term.length());
            }
        });
        Check.sentence("Terms IV", "light | angle NUMBER | rate NUMBER (0 .. 2).", () -> {
            Check.goodPlan("when light < 5 mode 1;", 1);
            Check.planFault("when light h < 5 mode 1;", 2, 11);
            for (String term : new String[] {"angle", "rate"}) {
                int place = 6 + term.length();
                for (int x = 0; x <= 2; x++) {
                    Check.goodPlan("when " + term + " " + x + " < 5 mode 1;", 1);
                }
                Check.planFault("when " + term + " 3 < 5 mode 1;", 5, place);
                Check.planFault("when " + term + " -1 < 5 mode 1;", 5, place);
                Check.planFault("when " + term + " h < 5 mode 1;", 2, place);
                Check.planFault("when " + term + " < 5 mode 1;", 2, place);
            }
        });
    }

    /** Which of the units may stand between two texts of a plan; the others are fault 3. */
    private static void named(String before, String behind, String[] units, int... fits) {
        for (int i = 0; i < units.length; i++) {
            if (fits[i] == 1) {
                Check.goodPlan(before + units[i] + behind, 1);
            } else {
                Check.planFault(before + units[i] + behind, 3, before.length());
            }
        }
    }

    private static void actTexts() {
        Check.sentence("Terms IV", "ACT: on NAME | off NAME", () -> {
            for (String act : new String[] {"on", "off"}) {
                named("at 5 " + act + " ", ";", new String[] {"bat", "rec", "w", "g", "h"}, 1, 1, 1, 1, 1);
                Check.planFault("at 5 " + act + " x;", 3, 6 + act.length());
                Check.planFault("at 5 " + act + " 1;", 2, 6 + act.length());
                Check.planFault("at 5 " + act + ";", 2, 5 + act.length());
                Check.planFault("at 5 " + act + " h h;", 2, 8 + act.length());
            }
            Check.planFault("at 5 onn h;", 2, 5);
            Check.planFault("at 5 o h;", 2, 5);
        });
        Check.sentence("Terms IV", "mode NUMBER (0 .. 3)", () -> {
            Check.goodPlan("at 5 mode 0;at 5 mode 1;at 5 mode 2;at 5 mode 3;", 4);
            Check.planFault("at 5 mode -1;", 5, 10);
            Check.planFault("at 5 mode 4;", 5, 10);
            Check.planFault("at 5 mode h;", 2, 10);
            Check.planFault("at 5 mode 1 1;", 2, 12);
        });
        Check.sentence("Terms IV", "aim NUMBER NUMBER (0 .. 2, 0 .. 3599)", () -> {
            Check.goodPlan("at 5 aim 0 0;at 5 aim 2 3599;at 5 aim 1 0;", 3);
            Check.planFault("at 5 aim -1 0;", 5, 9);
            Check.planFault("at 5 aim 3 0;", 5, 9);
            Check.planFault("at 5 aim 0 -1;", 5, 11);
            Check.planFault("at 5 aim 0 3600;", 5, 11);
            Check.planFault("at 5 aim 0;", 2, 10);
            Check.planFault("at 5 aim 0 h;", 2, 11);
        });
        Check.sentence("Terms IV", "restart NAME | wipe NAME (of a RECORDER)", () -> {
            String[] units = {"bat", "rec", "w", "g", "h"};
            named("at 5 restart ", ";", units, 1, 1, 1, 1, 1);
            named("at 5 wipe ", ";", units, 0, 1, 0, 0, 0);
            Check.planFault("at 5 restart x;", 3, 13);
            Check.planFault("at 5 wipe x;", 3, 10);
            Check.planFault("at 5 wipe 1;", 2, 10);
            Check.planFault("at 5 restart ;", 2, 13);
        });
        Check.sentence("Terms IV", "stop NUMBER (0 .. 29)", () -> {
            Check.goodPlan("at 5 stop 0;at 5 stop 29;", 2);
            Check.planFault("at 5 stop -1;", 5, 10);
            Check.planFault("at 5 stop 30;", 5, 10);
            Check.planFault("at 5 stop ;", 2, 10);
        });
        Check.sentence("Terms IV", "3 a NAME that no unit has, or one of another layer than told (at it)", () -> {
            Check.planFault("at 5 on x", 3, 8);
            Check.planFault("at 5 on  ba;", 3, 9);
            Check.planFault("at 5 on batt;", 3, 8);
            Check.planFault("at 5 wipe bat A", 3, 10);
            SmallCraft bare = new SmallCraft();
            Check.due("without units", Check.plan(bare, "at 5 on x;"), -1);
            row("its fault", bare, 3, 8);
            SmallCraft fewer = Check.flying("tank a 5;tank b 5;");
            Check.load(fewer, "tank a 5;");
            Check.due("a unit that was once", Check.plan(fewer, "at 5 on b;"), -1);
            row("its fault", fewer, 3, 8);
            SmallCraft last = Check.flying(tanks(20));
            Check.due("the twentieth unit", Check.plan(last, "at 5 on t19;"), 1);
        });
        Check.sentence("Terms IV", "5 a NUMBER out of its range.", () -> {
            Check.planFault("at 99999 A", 5, 3);
            Check.planFault("at 5 mode -99999;", 5, 10);
            Check.planFault("at 5 stop 99999;", 5, 10);
            Check.planFault("at 5 aim 99999 99999;", 5, 9);
        });
    }

    // ---- promises 1 to 5
    private static void newObject() {
        Check.sentence("Promise 1", "An empty tape, no units.", () -> {
            SmallCraft craft = new SmallCraft();
            Check.fails("load(1)", ILLEGAL, () -> craft.load(1));
            Check.fails("plan(1)", ILLEGAL, () -> craft.plan(1));
            Check.row("craft", Check.crafts(craft, 0, 1, 12, 13, 14, 15, 24), 0, 0, 0, 0, 0, 0, 0);
            Check.fails("part", IndexOutOfBoundsException.class, () -> craft.part(0, 0));
            Check.fails("run", IllegalStateException.class, () -> craft.run(0));
            Check.due("at", craft.at(0), -1);
            Check.due("a first feed", craft.feed(0, 0, 0, 0, 0), 20);
            Check.due("a plan of nothing", craft.plan(0), 0);
            Check.due("a book of nothing", craft.load(0), 0);
        });
        Check.sentence("Terms", "The constants: `NONE = -1`: There is none.", () -> {
            Check.due("NONE", SmallCraft.NONE, -1);
            Check.due("an empty answer", new SmallCraft().at(0), SmallCraft.NONE);
        });
        Check.sentence("What it is", "An object is used for at most 512 calls after it has been made", () -> {
            SmallCraft craft = new SmallCraft();
            craft.feed(0x74616e6b, 0x20742039, 0x303b0000, 0, 0);
            craft.load(10);
            int ticks = 0;
            for (int call = 3; call <= 511; call++) {
                ticks = craft.run(1000);
            }
            Check.due("ticks of 509 runs", ticks, 509000);
            Check.due("call 512", craft.craft(1), 509000);
        });
    }

    private static void feed() {
        Check.sentence("Promise 2",
            "Twenty bytes come behind those on the TAPE, four of each number, the highest first: how many "
            + "there are.", () -> {
            SmallCraft craft = new SmallCraft();
            Check.due("a first feed", craft.feed(0x74616e6b, 0x0a616263, 0x64656667, 0x68203139, 0x39393b20), 20);
            Check.due("a second feed", craft.feed(0x74616e6b, 0x20782035, 0x3b202020, 0x202020ff, -1), 40);
            Check.due("the text", craft.load(35), 2);
            Check.row("its letters and number", new int[] {craft.name(0, 0), craft.name(0, 7), craft.part(0, 9)}, 'a',
                'h', 1999);
            craft.feed(0x20202020, 0x80202020, 0, 0, 0);
            Check.due("a byte above 127", craft.load(20), -1);
            row("it is one byte", craft, 1, 4);
            craft.feed(0x20202020, 0x2020200a, 0x20202020, 0x20202020, 0x202020ff);
            Check.due("the last byte", craft.load(20), -1);
            row("its place", craft, 1, 19);
        });
        Check.sentence("Promise 2", "NONE, and none comes, when there would be more than 4000.", () -> {
            SmallCraft craft = new SmallCraft();
            Check.due("200 feeds", blanks(craft, 200), 4000);
            Check.due("feed 201", craft.feed(-1, -1, -1, -1, -1), -1);
            Check.due("feed 202", craft.feed(-1, -1, -1, -1, -1), -1);
            Check.fails("load(4020)", ILLEGAL, () -> craft.load(4020));
            Check.fails("load(4001)", ILLEGAL, () -> craft.load(4001));
            Check.due("no byte of these came", craft.load(4000), 0);
            row("no fault", craft, 0, -1);
            Check.due("then there is room again", craft.feed(-1, -1, -1, -1, -1), 20);
        });
    }

    private static void load() {
        Check.sentence("Promise 3",
            "The first n bytes of the TAPE (which is empty then) are read as a BOOK; its units are made in "
            + "place of all there were: how many.", () -> {
            SmallCraft craft = new SmallCraft();
            Check.type(craft, "tank t 55;tank u 5;");
            Check.due("the first ten", craft.load(10), 1);
            Check.fails("nothing is left", ILLEGAL, () -> craft.load(1));
            Check.type(craft, "tank t 55;tank u 5;");
            Check.due("all of it", craft.load(19), 2);
            Check.due("in place of those", craft.craft(0), 2);
            Check.due("none of the tape", craft.load(0), 0);
            Check.due("no units", craft.craft(0), 0);
            Check.fails("no unit", IndexOutOfBoundsException.class, () -> craft.part(0, 0));
            Check.due("twenty units", Check.load(craft, tanks(20)), 20);
            Check.due("one unit", Check.load(craft, "tank t 5;"), 1);
            Check.fails("no second one", IndexOutOfBoundsException.class, () -> craft.part(1, 0));
            Check.type(craft, "tank t 5;");
            craft.load(0);
            Check.due("a load of nothing empties the tape, too", craft.feed(0, 0, 0, 0, 0), 20);
        });
        Check.sentence("Promise 3", "NONE when there is a fault: all that was stays.", () -> {
            SmallCraft craft = Check.flying("tank t 50;recorder r 20;heater h 9;", 2);
            Check.plan(craft, "each 1 mode 2;at 3 restart t;");
            craft.command(3, 1, 7);
            craft.run(30);
            int[] before = seen(craft);
            for (String text : new String[] {"recorder x 20;tank t 0;", "tank", "tank t 5;tank t 5;", tanks(21), "A"}) {
                Check.due("a fault", Check.load(craft, text), -1);
                Check.row("all stays", seen(craft), before);
                Check.due("but the tape is empty", craft.feed(0, 0, 0, 0, 0), 20);
                craft.plan(20);
            }
            craft.run(1);
            Check.row("it flies on", new int[] {craft.craft(1), craft.item(0, 0)}, 31, 30);
        });
        Check.sentence("Promise 3",
            "IllegalArgumentException, and the TAPE stays, when n is below 0 or more than there are.", () -> {
            SmallCraft craft = Check.flying("tank t 50;");
            for (int n : new int[] {-1, 1, Integer.MIN_VALUE, Integer.MAX_VALUE}) {
                Check.fails("load of " + n + ", the tape being empty", ILLEGAL, () -> craft.load(n));
            }
            Check.type(craft, "tank t 5; tank u 5; ");
            for (int n : new int[] {-1, 21, 4000, 4001, Integer.MIN_VALUE, Integer.MAX_VALUE}) {
                Check.fails("load of " + n, ILLEGAL, () -> craft.load(n));
            }
            Check.row("the units stay", new int[] {craft.craft(0), craft.part(0, 9)}, 1, 50);
            Check.due("the tape stays", craft.load(20), 2);
        });
    }

    private static int[] seen(SmallCraft craft) {
        int[] row = new int[28 + 12 + 6];
        for (int what = 0; what < 28; what++) {
            row[what] = craft.craft(what);
        }
        for (int unit = 0; unit < 3; unit++) {
            int[] parts = Check.parts(craft, unit, 0, 2, 4, 62);
            System.arraycopy(parts, 0, row, 28 + 4 * unit, 4);
        }
        row[40] = craft.item(0, 0);
        row[41] = craft.item(1, 0);
        row[42] = craft.item(1, 2);
        row[43] = craft.note(9, 2);
        row[44] = craft.kept(1, 11);
        row[45] = craft.name(1, 0);
        return row;
    }

    private static void plan() {
        Check.sentence("Promise 4",
            "The first n bytes of the TAPE (which is empty then) are read as a PLAN, in place of the one "
            + "that was (no item was looked at yet): how many items.", () -> {
            SmallCraft craft = Check.flying("tank t 5;");
            Check.type(craft, "at 5 mode 1;at 6 mode 2;");
            Check.due("the first twelve", craft.plan(12), 1);
            Check.fails("nothing is left", ILLEGAL, () -> craft.plan(1));
            Check.due("two items", Check.plan(craft, "when light > 5 mode 1;each 1 stop 1;"), 2);
            craft.run(3);
            Check.row("they were due", new int[] {craft.item(0, 0), craft.item(1, 0), craft.item(1, 2)}, 1, 1, 1);
            Check.due("the same again", Check.plan(craft, "when light > 5 mode 1;each 1 stop 1;"), 2);
            Check.row("as if new", new int[] {craft.item(0, 0), craft.item(1, 0), craft.item(1, 2)}, 0, 0, 0);
            craft.run(1);
            Check.row("due again", new int[] {craft.item(0, 0), craft.item(1, 0), craft.item(1, 2)}, 1, 1, 1);
            for (int k = 0; k < 4; k++) {
                Check.plan(craft, "when light > 5 on t;each 1 stop 1;");
                Check.row("new again", new int[] {craft.item(0, 0), craft.item(0, 1), craft.item(1, 0), craft.item(1,
                    2)}, 0, 0, 0, 0);
                craft.run(2);
                Check.row("due again", new int[] {craft.item(0, 0), craft.item(0, 1), craft.item(1, 0), craft.item(1,
                    2)}, 1, 1, 1, 1);
            }
            Check.due("none of the tape", craft.plan(0), 0);
            Check.row("no items", new int[] {craft.craft(24), craft.item(0, 0)}, 0, -1);
            Check.due("without units, too", Check.plan(new SmallCraft(), "at 5 mode 2;"), 1);
        });
        Check.sentence("Promise 4", "NONE when there is a fault: the plan stays.", () -> {
            SmallCraft craft = Check.flying("tank t 5;");
            Check.plan(craft, "when light > 5 mode 1;each 1 mode 2;each 1 stop 2;");
            craft.run(3);
            for (String text : new String[] {"at 5 mode 2;at", "at 5 mode 4;", "at 5 on x;",
                "at 5 mode 1;".repeat(31), "A", ";"}) {
                Check.due("a fault", Check.plan(craft, text), -1);
                Check.row("the plan stays", new int[] {craft.craft(24), craft.item(0, 0), craft.item(1, 0),
                    craft.item(2, 2)},
                    3, 1, 2, 1);
                Check.due("but the tape is empty", craft.feed(0, 0, 0, 0, 0), 20);
                craft.plan(20);
            }
            craft.run(1);
            Check.row("it goes on", new int[] {craft.item(0, 0), craft.item(1, 0), craft.item(2, 0)}, 1, 3, 1);
        });
        Check.sentence("Promise 4", "IllegalArgumentException as for load().", () -> {
            SmallCraft craft = Check.flying("tank t 5;");
            Check.plan(craft, "at 9 mode 1;");
            for (int n : new int[] {-1, 1, Integer.MIN_VALUE, Integer.MAX_VALUE}) {
                Check.fails("plan of " + n + ", the tape being empty", ILLEGAL, () -> craft.plan(n));
            }
            Check.type(craft, "at 0 mode 1;at 1 mode 1;at 2 mode 2;    ");
            for (int n : new int[] {-1, 41, 4001, Integer.MIN_VALUE, Integer.MAX_VALUE}) {
                Check.fails("plan of " + n, ILLEGAL, () -> craft.plan(n));
            }
            Check.due("the plan stays", craft.craft(24), 1);
            Check.due("the tape stays", craft.plan(40), 3);
        });
    }

    private static void fault() {
        Check.sentence("Promise 5",
            "Of the latest load() or plan(): what 0 the fault, 0 without one; 1 its place, NONE without one.", () -> {
            SmallCraft craft = new SmallCraft();
            row("ahead of any", craft, 0, -1);
            Check.load(craft, "tank t 0;");
            row("of a load", craft, 5, 7);
            Check.plan(craft, "at 5 mode");
            row("of a plan", craft, 2, 9);
            craft.plan(0);
            row("of a good plan", craft, 0, -1);
            Check.load(craft, "A");
            row("at place 0", craft, 1, 0);
            Check.load(craft, "tank t 5;");
            row("of a good load", craft, 0, -1);
            Check.load(craft, "tank t 5;tank t 5;");
            row("of a load again", craft, 3, 14);
            Check.fails("load(-1)", ILLEGAL, () -> craft.load(-1));
            Check.fails("plan(1)", ILLEGAL, () -> craft.plan(1));
            row("no text was read since", craft, 3, 14);
        });
        Check.sentence("Promise 5", "NONE for another what.", () -> {
            SmallCraft craft = new SmallCraft();
            Check.load(craft, "tank t 0;");
            for (int what : new int[] {-1, 2, 3, Integer.MIN_VALUE, Integer.MAX_VALUE}) {
                Check.due("fault(" + what + ")", craft.fault(what), -1);
            }
        });
    }

    public static void main(String[] args) {
        tape();
        words();
        textFaults();
        book();
        planTexts();
        actTexts();
        newObject();
        feed();
        load();
        plan();
        fault();
        Check.end();
    }
}
