import java.nio.charset.StandardCharsets;
import java.util.Arrays;

/** What the tests share: comparing answers, and putting a text on a craft's tape. */
final class Check {
    interface Call {
        int answer();
    }

    private static int wrong = 0;
    private static int looked = 0;

    private Check() {
    }

    static void due(String what, long got, long want) {
        looked++;
        if (got != want) {
            wrong++;
            System.out.println(what + " answered " + got + ", due is " + want);
        }
    }

    static void row(String what, int[] got, int... want) {
        looked++;
        if (!Arrays.equals(got, want)) {
            wrong++;
            System.out.println(what + " answered " + Arrays.toString(got) + ", due is " + Arrays.toString(want));
        }
    }

    static void due(String what, boolean got, boolean want) {
        due(what, got ? 1 : 0, want ? 1 : 0);
    }

    /** The exact class counts: one below it would come from the machine, not from a throw of the program. */
    static void fails(String what, Class<? extends Exception> want, Call call) {
        looked++;
        try {
            int got = call.answer();
            wrong++;
            System.out.println(what + " answered " + got + ", due is " + want.getSimpleName());
        } catch (RuntimeException e) {
            if (e.getClass() != want) {
                wrong++;
                System.out.println(what + " threw " + e + ", due is " + want.getSimpleName());
            }
        }
    }

    /** Puts a text behind what is on the tape, with zeros up to twenty bytes. */
    static void type(SmallCraft craft, String text) {
        int[] words = words(text);
        for (int i = 0; i < words.length; i += 5) {
            craft.feed(words[i], words[i + 1], words[i + 2], words[i + 3], words[i + 4]);
        }
    }

    static int[] words(String text) {
        byte[] bytes = text.getBytes(StandardCharsets.ISO_8859_1);
        int[] words = new int[(bytes.length + 19) / 20 * 5];
        for (int i = 0; i < bytes.length; i++) {
            words[i / 4] |= (bytes[i] & 255) << (24 - i % 4 * 8);
        }
        return words;
    }

    static int load(SmallCraft craft, String text) {
        type(craft, text);
        return craft.load(text.length());
    }

    static int plan(SmallCraft craft, String text) {
        type(craft, text);
        return craft.plan(text.length());
    }

    static SmallCraft flying(String book) {
        SmallCraft craft = new SmallCraft();
        if (load(craft, book) == SmallCraft.NONE) {
            throw new IllegalStateException("a fault in the test's own book: " + book);
        }
        return craft;
    }

    static int[] parts(SmallCraft craft, int unit, int... whats) {
        int[] row = new int[whats.length];
        for (int i = 0; i < whats.length; i++) {
            row[i] = craft.part(unit, whats[i]);
        }
        return row;
    }

    static int[] crafts(SmallCraft craft, int... whats) {
        int[] row = new int[whats.length];
        for (int i = 0; i < whats.length; i++) {
            row[i] = craft.craft(whats[i]);
        }
        return row;
    }

    static void end() {
        System.out.println(looked + " answers looked at, " + wrong + " wrong");
        if (wrong != 0) {
            System.exit(1);
        }
    }
}
