import java.io.IOException;
import java.io.UncheckedIOException;
import java.nio.file.Files;
import java.nio.file.Path;

/**
 * What the tests of the boundaries share. Each test names a sentence of the document and holds the class to it; the
 * bench looks the words up in the document, so that no test stands for a sentence that is not there.
 */
final class Bench {
    static final Class<?> INDEX = IndexOutOfBoundsException.class;
    static final Class<?> ARGUMENT = IllegalArgumentException.class;
    static final Class<?> STATE = IllegalStateException.class;
    static final int NONE = -1;
    static final int TRAIN_ROOM = 0;
    static final int FRONT_ROOM = 1;
    static final int STAY = 2;
    static final int PATIENCE = 3;
    static final int RULE = 4;

    private static final Path DOCUMENT = Path.of("../shared/DOC.md");

    /** Makes the same object each time. */
    interface Recipe {
        NightTrains make();
    }

    interface Call {
        int on(NightTrains x);
    }

    /** A call with one argument that is tried at its edges. */
    interface Edge {
        int on(NightTrains x, int v);
    }

    private interface Probe {
        String of(NightTrains x);
    }

    // Looked at on fresh objects, one probe each, as an object is good for 512 calls only.
    private static final Probe[] PROBES = {Bench::whatThereIs, Bench::remembered, x -> slot(x, 0), x -> slot(x, 1),
        Bench::text};

    private final String test;
    private final String document;
    private String sentence = "";
    private int sentences = 0;
    private int checks = 0;
    private int wrong = 0;

    Bench(String test) {
        this.test = test;
        try {
            document = flat(Files.readString(DOCUMENT));
        } catch (IOException e) {
            throw new UncheckedIOException(e);
        }
    }

    /** The document breaks its lines, and once a paragraph, anywhere. */
    private static String flat(String words) {
        return words.replace("```text", " ").replace("```", " ").replaceAll("\\s+", " ");
    }

    /** The sentences, mostly one, that the checks which follow are about. */
    void sentence(String... all) {
        sentence = String.join(" / ", all);
        for (String words : all) {
            sentences++;
            checks++;
            if (!document.contains(flat(words))) {
                fault("not in the document: " + words);
            }
        }
    }

    private void fault(String what) {
        wrong++;
        System.out.println(test + ": " + what + " [" + sentence + "]");
    }

    void due(String call, int got, int want) {
        checks++;
        if (got != want) {
            fault(call + " answered " + got + ", due is " + want);
        }
    }

    void due(String call, String got, String want) {
        checks++;
        if (!got.equals(want)) {
            fault(call + " is " + got + ", due is " + want);
        }
    }

    /** The call answers so on an object that is made for it. */
    void answers(String call, int want, Recipe recipe, Call body) {
        checks++;
        try {
            due(call, body.on(recipe.make()), want);
        } catch (RuntimeException e) {
            fault(call + " threw " + e + ", due is " + want);
        }
    }

    /** The call throws that very class (what the machine throws is a class below it) and changes nothing. */
    void refuses(String call, Class<?> exception, Recipe recipe, Call body) {
        checks++;
        Class<?> thrown = thrownBy(recipe.make(), body);
        if (thrown != exception) {
            fault(call + " threw " + thrown + ", due is " + exception);
        }
        changesNothing(call, recipe, body);
    }

    /** Behind the call, whether it throws or answers, all is as it was: state, remembered states, slots and text. */
    void changesNothing(String call, Recipe recipe, Call body) {
        for (Probe probe : PROBES) {
            checks++;
            NightTrains called = recipe.make();
            thrownBy(called, body);
            if (!probe.of(called).equals(probe.of(recipe.make()))) {
                fault(call + " changed something");
            }
        }
    }

    private static Class<?> thrownBy(NightTrains x, Call body) {
        try {
            body.on(x);
            return null;
        } catch (RuntimeException e) {
            return e.getClass();
        }
    }

    /** The argument is taken at its edges and just inside, and refused just outside and far away. */
    void range(String call, Class<?> exception, int least, int most, Recipe recipe, Edge edge) {
        int[] inside = {least, Math.min(least + 1, most), Math.max(most - 1, least), most};
        for (int v : inside) {
            checks++;
            Class<?> thrown = thrownBy(recipe.make(), x -> edge.on(x, v));
            if (thrown != null) {
                fault(call + " with " + v + " threw " + thrown);
            }
        }
        int[] outside = {least - 1, most + 1, Integer.MIN_VALUE, Integer.MAX_VALUE};
        for (int v : outside) {
            refuses(call + " with " + v, exception, recipe, x -> edge.on(x, v));
        }
    }

    /** Prints the count, and ends with 1 if anything was wrong. */
    void end() {
        System.out.println(test + ": " + sentences + " sentences, " + checks + " checks, " + wrong + " wrong");
        if (wrong != 0) {
            System.exit(1);
        }
    }

    // ---- what can be seen of an object

    /** All that can be seen without changing anything: at most 248 calls. */
    static String whatThereIs(NightTrains x) {
        StringBuilder b = new StringBuilder("about");
        for (int what = 0; what <= 10; what++) {
            b.append(' ').append(x.about(what));
        }
        int open = x.about(1);
        for (int i = 0; i < open; i++) {
            b.append("; order ").append(i);
            for (int what = 0; what <= 4; what++) {
                b.append(' ').append(x.order(i, what));
            }
        }
        rows(b, "lot", 16, 4, x::lot);
        rows(b, "reader", 4, 4, x::reader);
        rows(b, "delivered", 10, 5, x::delivered);
        rows(b, "setting", 5, 1, (what, unused) -> x.setting(what));
        return b.append("; error ").append(x.errorPosition()).toString();
    }

    private interface Table {
        int at(int row, int what);
    }

    private static void rows(StringBuilder b, String name, int rows, int columns, Table table) {
        for (int row = 0; row < rows; row++) {
            b.append("; ").append(name).append(' ').append(row);
            for (int what = 0; what < columns; what++) {
                b.append(' ').append(table.at(row, what));
            }
        }
    }

    /** Takes back all that is remembered: at most 15 times 21 calls. */
    private static String remembered(NightTrains x) {
        StringBuilder b = new StringBuilder();
        int left = 1;
        while (left > 0) {
            try {
                left = x.undo();
            } catch (IllegalStateException e) {
                left = 0;
                b.append("none ");
            }
            b.append(left);
            for (int what = 0; what <= 10; what++) {
                b.append(' ').append(x.about(what));
            }
            rows(b, "purse", 4, 1, x::reader);
            rows(b, "setting", 5, 1, (what, unused) -> x.setting(what));
        }
        return b.toString();
    }

    private static String slot(NightTrains x, int slot) {
        try {
            return x.restore(slot) + " " + whatThereIs(x);
        } catch (IllegalStateException e) {
            return "empty";
        }
    }

    private static String text(NightTrains x) {
        int error = x.errorPosition();
        if (error != NONE) {
            return error + " " + x.clearText();
        }
        return x.load() + " " + whatThereIs(x) + " " + x.clearText();
    }

    // ---- objects to try things on

    static NightTrains fresh() {
        return new NightTrains();
    }

    static NightTrains write(NightTrains x, String signs) {
        for (int i = 0; i < signs.length(); i++) {
            x.append(signs.charAt(i));
        }
        return x;
    }

    static NightTrains written(String signs) {
        return write(new NightTrains(), signs);
    }

    static NightTrains loaded(String signs) {
        NightTrains x = written(signs);
        x.load();
        return x;
    }

    /** In it everything that a call could change holds something; three orders are open, lot 5 is in front. */
    static NightTrains busy() {
        NightTrains x = written("D23451o30172n1o00504");
        x.ask(0, 5, 0, 4);
        x.nights(1);
        x.save(0);
        x.ask(1, 6, 2, 3);
        x.give(2, 7);
        x.save(1);
        x.ask(3, 6, 1, 9);
        x.ask(0, 9, 7, 0);
        x.set(TRAIN_ROOM, 2);
        return x;
    }

    /** No number of about() is 0 in it; an order of reader 1 is open, the train has no room, the patience is 2. */
    static NightTrains eventful() {
        NightTrains x = loaded("D13220o00505o10604o20703o30802o00901n1c00n1o10007");
        x.set(TRAIN_ROOM, 0);
        return x;
    }

    /** Twenty open orders without a fee, five of each reader, for the lots 0 to 9, two for each. */
    static NightTrains full() {
        NightTrains x = new NightTrains();
        for (int i = 0; i < 20; i++) {
            x.ask(i % 4, i % 10, 0, 0);
        }
        return x;
    }

    /** Five open orders of reader 0, for the lots 0 to 4, with a fee of 9 each: 5 are left in the purse. */
    static NightTrains poor() {
        NightTrains x = new NightTrains();
        for (int i = 0; i < 5; i++) {
            x.ask(0, i, 0, 9);
        }
        return x;
    }
}
