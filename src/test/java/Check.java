import java.io.IOException;
import java.nio.charset.StandardCharsets;
import java.nio.file.Files;
import java.nio.file.Path;
import java.util.Arrays;

/** What the tests share: comparing answers, naming a sentence of the document, putting a text on a craft's tape. */
final class Check {
    interface Call {
        int answer();
    }

    private static int wrong = 0;
    private static int looked = 0;
    private static int sentences = 0;
    private static String sentence = "";
    private static final String DOCUMENT = document();

    private Check() {
    }

    private static String squeezed(String text) {
        return text.replace("&lt;", "<").replace("&gt;", ">").replaceAll("\\s+", " ").trim();
    }

    private static String document() {
        try {
            return squeezed(Files.readString(Path.of("../shared/DOC.md")));
        } catch (IOException e) {
            System.out.println("no document at hand: the words of the sentences are not compared with it");
            return "";
        }
    }

    /** A test of its own for a sentence of the document, which is named by its place and in its own words. */
    static void sentence(String place, String words, Runnable test) {
        sentences++;
        sentence = "[" + place + ": " + words + "] ";
        if (!DOCUMENT.isEmpty() && !DOCUMENT.contains(squeezed(words))) {
            tell("does not stand in the document");
        }
        int before = looked;
        try {
            test.run();
        } catch (RuntimeException e) {
            tell("its test ended by " + e + " at " + e.getStackTrace()[0]);
        }
        if (looked == before) {
            tell("its test looked at nothing");
        }
        sentence = "";
    }

    private static void tell(String text) {
        wrong++;
        System.out.println(sentence + text);
    }

    static void due(String what, long got, long want) {
        looked++;
        if (got != want) {
            tell(what + " answered " + got + ", due is " + want);
        }
    }

    static void row(String what, int[] got, int... want) {
        looked++;
        if (!Arrays.equals(got, want)) {
            tell(what + " answered " + Arrays.toString(got) + ", due is " + Arrays.toString(want));
        }
    }

    static void due(String what, boolean got, boolean want) {
        due(what, got ? 1 : 0, want ? 1 : 0);
    }

    /** The exact class counts: one below it would come from the machine, not from a throw of the program. */
    static void fails(String what, Class<? extends Exception> want, Call call) {
        looked++;
        try {
            int got = call.answer();
            tell(what + " answered " + got + ", due is " + want.getSimpleName());
        } catch (RuntimeException e) {
            if (e.getClass() != want) {
                tell(what + " threw " + e + ", due is " + want.getSimpleName());
            }
        }
    }

    /** Puts a text behind what is on the tape, with zeros up to twenty bytes. */
    static void type(SmallCraft craft, String text) {
        int[] words = words(text);
        for (int i = 0; i < words.length; i += 5) {
            craft.feed(words[i], words[i + 1], words[i + 2], words[i + 3], words[i + 4]);
        }
    }

    static int[] words(String text) {
        byte[] bytes = text.getBytes(StandardCharsets.ISO_8859_1);
        int[] words = new int[(bytes.length + 19) / 20 * 5];
        for (int i = 0; i < bytes.length; i++) {
            words[i / 4] |= (bytes[i] & 255) << (24 - i % 4 * 8);
        }
        return words;
    }

    static int load(SmallCraft craft, String text) {
        type(craft, text);
        return craft.load(text.length());
    }

    static int plan(SmallCraft craft, String text) {
        type(craft, text);
        return craft.plan(text.length());
    }

    static SmallCraft flying(String book) {
        SmallCraft craft = new SmallCraft();
        if (load(craft, book) == SmallCraft.NONE) {
            throw new IllegalStateException("a fault in the test's own book: " + book);
        }
        return craft;
    }

    /** Switches units on; one that is stubborn takes two acts. */
    static void on(SmallCraft craft, int... units) {
        for (int unit : units) {
            if (craft.part(unit, 64) == 1) {
                craft.command(0, unit, 0);
            }
            due("on of unit " + unit, craft.command(0, unit, 0), true);
        }
    }

    static SmallCraft flying(String book, int... on) {
        SmallCraft craft = flying(book);
        on(craft, on);
        return craft;
    }

    /** Runs until so many ticks were flown. */
    static void until(SmallCraft craft, int ticks) {
        for (int left = ticks - craft.craft(1); left > 0; left -= 1000) {
            craft.run(Math.min(left, 1000));
        }
    }

    static void bookFault(String text, int code, int place) {
        SmallCraft craft = new SmallCraft();
        due("load of " + text, load(craft, text), SmallCraft.NONE);
        row("fault of " + text, new int[] {craft.fault(0), craft.fault(1)}, code, place);
    }

    static void goodBook(String text, int units) {
        SmallCraft craft = new SmallCraft();
        due("load of " + text, load(craft, text), units);
        row("fault of " + text, new int[] {craft.fault(0), craft.fault(1)}, 0, SmallCraft.NONE);
    }

    /** The units that the plans of planFault and goodPlan speak of. */
    static final String PLANNED = "battery bat 50;recorder rec 50;wheel w 5 0;gyro g 5 5 0;heater h 5;";

    static void planFault(String text, int code, int place) {
        SmallCraft craft = flying(PLANNED);
        due("plan of " + text, plan(craft, text), SmallCraft.NONE);
        row("fault of " + text, new int[] {craft.fault(0), craft.fault(1)}, code, place);
    }

    static void goodPlan(String text, int items) {
        SmallCraft craft = flying(PLANNED);
        due("plan of " + text, plan(craft, text), items);
        row("fault of " + text, new int[] {craft.fault(0), craft.fault(1)}, 0, SmallCraft.NONE);
        due("items of " + text, craft.craft(24), items);
    }

    static int[] parts(SmallCraft craft, int unit, int... whats) {
        int[] row = new int[whats.length];
        for (int i = 0; i < whats.length; i++) {
            row[i] = craft.part(unit, whats[i]);
        }
        return row;
    }

    static int[] crafts(SmallCraft craft, int... whats) {
        int[] row = new int[whats.length];
        for (int i = 0; i < whats.length; i++) {
            row[i] = craft.craft(whats[i]);
        }
        return row;
    }

    static void end() {
        String named = sentences > 0 ? sentences + " sentences, " : "";
        System.out.println(named + looked + " answers looked at, " + wrong + " wrong");
        if (wrong != 0) {
            System.exit(1);
        }
    }
}
