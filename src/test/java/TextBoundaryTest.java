/** The boundaries of the text: its length, each place of its grammar, and load(). */
public final class TextBoundaryTest {
    private static final String DIGITS = "0123456789";
    private static final String ORDERS_FOR_45 = "o00009o00109o00209o00309o00409";

    private static final Bench bench = new Bench("TextBoundaryTest");

    public static void main(String[] args) {
        atMost120Characters();
        characterCodes();
        fullText();
        clearing();
        emptyText();
        headOfAStore();
        commandLetters();
        ordersInTheText();
        cancelsInTheText();
        nightsInTheText();
        anyNumberOfCommands();
        blanks();
        firstOfTwoErrors();
        digitsThatBeginNothing();
        textsThatEndTooSoon();
        noStore();
        leftOutForThePurse();
        leftOutForTheNumber();
        countsWhatIsLeftOut();
        nightsOfOneCommand();
        asInANewObject();
        loadForgets();
        keepsTheText();
        bench.end();
    }

    private static String repeated(String signs, int times) {
        return signs.repeat(times);
    }

    private static int errorIn(String signs) {
        return Bench.written(signs).errorPosition();
    }

    // ---- append, clearText

    private static void atMost120Characters() {
        bench.sentence("The object has a text buffer of at most 120 characters.",
                "Returns the new length of the text.");
        NightTrains x = Bench.fresh();
        for (int n = 1; n <= 120; n++) {
            bench.due("append() to " + n, x.append('D'), n);
        }
        bench.refuses("append() to 121", Bench.STATE, () -> Bench.written(repeated("D", 120)), y -> y.append('D'));
        bench.answers("append() to 120", 120, () -> Bench.written(repeated("D", 119)), y -> y.append('D'));
    }

    private static void characterCodes() {
        bench.sentence("`c`: character code, 0 to 255", "Throws `IllegalArgumentException` if c is out of range");
        bench.range("append()", Bench.ARGUMENT, 0, 255, Bench::busy, (x, v) -> x.append(v));
        // 324 is the letter D and 256 more, 65604 is D and 65536 more.
        bench.refuses("append(324)", Bench.ARGUMENT, Bench::busy, x -> x.append(324));
        bench.refuses("append(65604)", Bench.ARGUMENT, Bench::busy, x -> x.append(65604));
        bench.refuses("append(-188)", Bench.ARGUMENT, Bench::busy, x -> x.append(-188));
    }

    private static void fullText() {
        bench.sentence("Throws `IllegalStateException` if the text already has 120 characters");
        // The text of the busy object has 20 characters.
        Bench.Recipe almost = () -> Bench.write(Bench.busy(), repeated("n1", 49) + "n");
        bench.answers("append() to 120", 120, almost, x -> x.append('1'));
        Bench.Recipe full = () -> Bench.write(almost.make(), "1");
        bench.refuses("append() when full", Bench.STATE, full, x -> x.append('n'));
        bench.refuses("append(0) when full", Bench.STATE, full, x -> x.append(0));
        bench.refuses("append(255) when full", Bench.STATE, full, x -> x.append(255));
        bench.refuses("append(-1) when full", Bench.ARGUMENT, full, x -> x.append(-1));
        bench.refuses("append(256) when full", Bench.ARGUMENT, full, x -> x.append(256));
        NightTrains emptied = full.make();
        emptied.clearText();
        bench.due("append() behind clearText()", emptied.append('D'), 1);
    }

    private static void clearing() {
        bench.sentence("Returns the previous length of the text.");
        int[] lengths = {0, 1, 119, 120};
        for (int n : lengths) {
            NightTrains x = Bench.written(repeated("D", n));
            bench.due("clearText() of " + n, x.clearText(), n);
            bench.due("clearText() behind it", x.clearText(), 0);
            bench.due("errorPosition() behind it", x.errorPosition(), 0);
        }
    }

    // ---- errorPosition

    private static void emptyText() {
        bench.sentence("if the text ends too soon, it is the length of the text.");
        bench.due("error in an empty text", errorIn(""), 0);
        bench.due("error in 'D'", errorIn("D"), 1);
    }

    /** Of all characters only these are allowed between the two; with them the error is there, else at the place. */
    private static void allowedAre(String signs, String before, String behind, int errorWithThem) {
        for (char c = 0; c <= 255; c++) {
            int want = signs.indexOf(c) >= 0 ? errorWithThem : before.length();
            bench.due("error in '" + before + "', " + (int) c + ", '" + behind + "'", errorIn(before + c + behind),
                    want);
        }
    }

    private static void headOfAStore() {
        bench.sentence("A store is the letter D, five digits for the settings 0 to 4,");
        allowedAre("D", "", "13250", Bench.NONE);
        allowedAre("01234", "D", "3250", Bench.NONE);
        allowedAre("123456", "D1", "250", Bench.NONE);
        allowedAre("123456789", "D13", "50", Bench.NONE);
        allowedAre("123456789", "D132", "0", Bench.NONE);
        allowedAre("012", "D1325", "", Bench.NONE);
        // The same digits are allowed while the text is short.
        allowedAre("D", "", "", 1);
        allowedAre("01234", "D", "", 2);
        allowedAre("123456", "D1", "", 3);
        allowedAre("123456789", "D13", "", 4);
        allowedAre("123456789", "D132", "", 5);
    }

    private static void commandLetters() {
        bench.sentence("any number of commands: the letter o, a digit for a reader (0 to 3), two for a lot (00 to "
                + "15), one for an item (0 to 7) and one for a fee: ask();");
        allowedAre("ocn", "D13250", "", 7);
        allowedAre("ocn", "D13250o01579", "", 13);
        allowedAre("ocn", "D13250c19", "", 10);
        allowedAre("ocn", "D13250n9", "", 9);
    }

    private static void ordersInTheText() {
        bench.sentence("a digit for a reader (0 to 3), two for a lot (00 to 15), one for an item (0 to 7) and one "
                + "for a fee");
        allowedAre("0123", "D13250o", "0000", Bench.NONE);
        allowedAre("01", "D13250o3", "000", Bench.NONE);
        allowedAre(DIGITS, "D13250o30", "00", Bench.NONE);
        allowedAre("012345", "D13250o31", "00", Bench.NONE);
        allowedAre("01234567", "D13250o315", "0", Bench.NONE);
        allowedAre("01234567", "D13250o309", "9", Bench.NONE);
        allowedAre(DIGITS, "D13250o3157", "", Bench.NONE);
        // The same behind another command, and while the text is short.
        allowedAre("0123", "D13250n1o", "", 10);
        allowedAre("01", "D13250n1o3", "", 11);
        allowedAre("012345", "D13250n1o31", "", 12);
        allowedAre("01234567", "D13250n1o315", "", 13);
    }

    private static void cancelsInTheText() {
        bench.sentence("c and two digits for an order (00 to 19): cancel();");
        allowedAre("01", "D13250c", "9", Bench.NONE);
        allowedAre(DIGITS, "D13250c0", "", Bench.NONE);
        allowedAre(DIGITS, "D13250c1", "", Bench.NONE);
        allowedAre("01", "D13250o00000c", "", 14);
    }

    private static void nightsInTheText() {
        bench.sentence("n and a digit (1 to 9): so many nights.");
        allowedAre("123456789", "D13250n", "", Bench.NONE);
        allowedAre("123456789", "D13250c00n", "n1", Bench.NONE);
    }

    private static void anyNumberOfCommands() {
        bench.sentence("and then any number of commands");
        bench.due("no command", errorIn("D13250"), Bench.NONE);
        bench.due("one command", errorIn("D13250n1"), Bench.NONE);
        String most = "D13250" + repeated("n1", 57);
        bench.due("57 commands, 120 characters", errorIn(most), Bench.NONE);
        bench.due("119 of them", errorIn(most.substring(0, 119)), 119);
        bench.due("118 of them", errorIn(most.substring(0, 118)), Bench.NONE);
        bench.due("19 orders, 120 characters", errorIn("D13250" + repeated("o00000", 19)), Bench.NONE);
        bench.due("38 cancels, 120 characters", errorIn("D13250" + repeated("c00", 38)), Bench.NONE);
        bench.due("the last of 120 characters", errorIn(most.substring(0, 119) + "0"), 119);
        bench.due("120 characters that end too soon", errorIn(most.substring(0, 118) + "o3"), 120);
    }

    private static void blanks() {
        bench.sentence("There are no blanks.");
        String store = "D13250o00504c00n1";
        for (int at = 0; at <= store.length(); at++) {
            bench.due("a blank at " + at, errorIn(store.substring(0, at) + " " + store.substring(at)), at);
        }
    }

    private static void firstOfTwoErrors() {
        bench.sentence("The text is read from left to right.",
                "The error position is the index of the first character that these rules do not allow at "
                + "its place");
        bench.due("errors at 1 and 5", errorIn("D91329"), 1);
        bench.due("errors at 0 and 1", errorIn("d9"), 0);
        bench.due("errors at 7 and 8", errorIn("D13250o49000"), 7);
        bench.due("errors at 6 and 7", errorIn("D13250D4"), 6);
        bench.due("an error, and the text ends too soon", errorIn("D13250o0x"), 8);
    }

    private static void digitsThatBeginNothing() {
        bench.sentence("(a digit is not allowed if no number that is allowed begins with it and those before it)");
        bench.due("lot 20", errorIn("D13250o02000"), 8);
        bench.due("lot 16", errorIn("D13250o01600"), 9);
        bench.due("lot 15", errorIn("D13250o01500"), Bench.NONE);
        bench.due("lot 09", errorIn("D13250o00900"), Bench.NONE);
        bench.due("order 20", errorIn("D13250c20"), 7);
        bench.due("order 19", errorIn("D13250c19"), Bench.NONE);
        bench.due("a lot that begins with 2, and no more", errorIn("D13250o02"), 8);
        bench.due("an order that begins with 2, and no more", errorIn("D13250c2"), 7);
        bench.due("0 nights", errorIn("D13250n0"), 7);
        bench.due("room for 0 lots in front", errorIn("D10250"), 2);
    }

    private static void textsThatEndTooSoon() {
        bench.sentence("Returns the error position of the text; NONE if it is a store.");
        String store = "D13250o00504c00n1";
        for (int n = 0; n <= store.length(); n++) {
            boolean whole = n == 6 || n == 12 || n == 15 || n == 17;
            bench.due("the first " + n + " characters", errorIn(store.substring(0, n)), whole ? Bench.NONE : n);
        }
        bench.changesNothing("errorPosition()", Bench::busy, x -> x.errorPosition());
    }

    // ---- load

    private static NightTrains busyWith(String signs) {
        NightTrains x = Bench.busy();
        x.clearText();
        return Bench.write(x, signs);
    }

    private static void noStore() {
        bench.sentence("Throws `IllegalStateException` if the text is not a store");
        String[] none = {"", "D", "D1325", "d13250", "D53250", "D10250", "D13253", "D13250o", "D13250o0000",
                "D13250o40000",
            "D13250c", "D13250c20", "D13250n", "D13250n0", "D13250 ", " D13250", "D13250" + repeated("n1", 56) + "n",
            "D13250" + repeated("n1", 56) + "n0"};
        for (String signs : none) {
            bench.refuses("load() of '" + signs + "'", Bench.STATE, () -> busyWith(signs), x -> x.load());
        }
        bench.answers("load() of the shortest store", 0, () -> busyWith("D01110"), x -> x.load());
        bench.answers("load() of a store of 120", 0, () -> busyWith("D13250" + repeated("n1", 57)), x -> x.load());
    }

    private static void leftOutForThePurse() {
        bench.sentence("Commands that would throw an exception are left out.");
        String spent = "D13250" + ORDERS_FOR_45;
        bench.answers("a fee of 4 of 5", 0, () -> Bench.written(spent + "o00504"), x -> x.load());
        bench.answers("a fee of 5 of 5", 0, () -> Bench.written(spent + "o00505"), x -> x.load());
        bench.answers("a fee of 6 of 5", 1, () -> Bench.written(spent + "o00506"), x -> x.load());
        bench.answers("no fee of 0", 0, () -> Bench.written(spent + "o00505o00600"), x -> x.load());
        bench.answers("a fee of 1 of 0", 1, () -> Bench.written(spent + "o00505o00601"), x -> x.load());
        NightTrains x = Bench.loaded(spent + "o00506o10609");
        bench.due("the command behind it is done", x.order(5, 1), 6);
        bench.due("the purse is as it was", x.reader(0, 0), 5);
        // Lot 0 came with the night: nothing is paid for it.
        bench.answers("a fee of 9 of 5 in front", 0, () -> Bench.written(spent + "n1o00009"), y -> y.load());
    }

    private static void leftOutForTheNumber() {
        bench.sentence("c and two digits for an order (00 to 19): cancel()");
        bench.answers("cancel(0) of none", 1, () -> Bench.written("D13250c00"), x -> x.load());
        bench.answers("cancel(0) of one", 0, () -> Bench.written("D13250o00000c00"), x -> x.load());
        bench.answers("cancel(1) of one", 1, () -> Bench.written("D13250o00000c01"), x -> x.load());
        String eighteen = "D13250" + repeated("o00000", 18);
        bench.answers("cancel(17) of 18", 0, () -> Bench.written(eighteen + "c17"), x -> x.load());
        bench.answers("cancel(18) of 18", 1, () -> Bench.written(eighteen + "c18"), x -> x.load());
        bench.answers("cancel(19) of 18", 1, () -> Bench.written(eighteen + "c19"), x -> x.load());
        NightTrains ten = Bench.loaded("D13250o00000o10000o20000o30000o00000o10000o20000o30000o00000o10000o20700c10");
        bench.due("cancel(10) of 11 takes the last", ten.about(1), 10);
        bench.due("cancel(10) is not cancel(1)", ten.order(1, 0), 1);
        bench.due("cancel(10) is not cancel(0)", ten.order(0, 0), 0);
        NightTrains far = Bench.loaded("D13250o31579o00000");
        int[] order = {3, 15, 7, 9, 0};
        for (int what = 0; what <= 4; what++) {
            bench.due("the greatest order, order(0, " + what + ")", far.order(0, what), order[what]);
        }
    }

    private static void countsWhatIsLeftOut() {
        bench.sentence("Returns the number of commands that are left out.");
        bench.answers("no command", 0, () -> Bench.written("D13250"), x -> x.load());
        bench.answers("none of three", 0, () -> Bench.written("D13250o00000c00n1"), x -> x.load());
        bench.answers("two of four", 2, () -> Bench.written("D13250c00o00000c01c00"), x -> x.load());
        bench.answers("all 38", 38, () -> Bench.written("D13250" + repeated("c00", 38)), x -> x.load());
        bench.answers("none of 19 orders", 0, () -> Bench.written("D13250" + repeated("o00000", 19)), x -> x.load());
    }

    private static void nightsOfOneCommand() {
        bench.sentence("n and a digit (1 to 9): so many nights.");
        for (int n = 1; n <= 9; n++) {
            bench.due("about(0) behind n" + n, Bench.loaded("D13250n" + n).about(0), n);
        }
        bench.due("57 times nine", Bench.loaded("D13250" + repeated("n9", 57)).about(0), 513);
    }

    private static void asInANewObject() {
        bench.sentence("Makes everything as in a new object, with the settings of the text, and does its commands.");
        NightTrains fresh = Bench.written("D13250");
        NightTrains x = busyWith("D13250");
        x.load();
        bench.due("the first settings, all", Bench.whatThereIs(x), Bench.whatThereIs(fresh));
        NightTrains eventful = Bench.eventful();
        eventful.clearText();
        Bench.write(eventful, "D13250").load();
        bench.due("the first settings, all, when much has happened", Bench.whatThereIs(eventful),
                Bench.whatThereIs(fresh));
        String[] edges = {"D01110", "D46992"};
        for (String edge : edges) {
            NightTrains y = busyWith(edge);
            y.load();
            for (int what = 0; what <= 4; what++) {
                bench.due(edge + ", setting(" + what + ")", y.setting(what), edge.charAt(1 + what) - '0');
            }
            for (int what = 0; what <= 10; what++) {
                bench.due(edge + ", about(" + what + ")", y.about(what), 0);
            }
            bench.due(edge + ", delivered(0, 0)", y.delivered(0, 0), Bench.NONE);
        }
    }

    private static void loadForgets() {
        bench.sentence("Behind it no state is remembered, and both save slots are empty.");
        Bench.Recipe behind = () -> {
            NightTrains x = busyWith("D13250o00504n1c00");
            x.load();
            return x;
        };
        bench.refuses("undo() behind load()", Bench.STATE, behind, x -> x.undo());
        bench.refuses("restore(0) behind load()", Bench.STATE, behind, x -> x.restore(0));
        bench.refuses("restore(1) behind load()", Bench.STATE, behind, x -> x.restore(1));
        NightTrains x = behind.make();
        x.give(0, 1);
        bench.due("undo() of the only action behind load()", x.undo(), 0);
        bench.due("save(1) behind load()", x.save(1), 1);
        bench.due("restore(1) of it", x.restore(1), 1);
    }

    private static void keepsTheText() {
        bench.sentence("Keeps the text.");
        NightTrains x = Bench.loaded("D13250o00504n1c00");
        bench.due("errorPosition() behind load()", x.errorPosition(), Bench.NONE);
        bench.due("load() again", x.load(), 1);
        bench.due("one night, not two", x.about(0), 1);
        bench.due("append() behind load()", x.append('n'), 18);
        NightTrains most = Bench.loaded("D13250" + repeated("n1", 57));
        bench.due("clearText() of 120 behind load()", most.clearText(), 120);
        bench.due("the state stays without the text", most.about(0), 57);
    }
}
