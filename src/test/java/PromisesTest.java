/** Each promise of the document, with answers worked out by hand. */
public final class PromisesTest {
    private static final Class<?> INDEX = IndexOutOfBoundsException.class;
    private static final Class<?> ARGUMENT = IllegalArgumentException.class;
    private static final Class<?> STATE = IllegalStateException.class;
    private static final int TRAIN_ROOM = 0;
    private static final int FRONT_ROOM = 1;
    private static final int STAY = 2;
    private static final int PATIENCE = 3;
    private static final int RULE = 4;

    private static int checks = 0;
    private static int wrong = 0;

    private interface Call {
        int answer();
    }

    public static void main(String[] args) {
        newObject();
        appending();
        clearing();
        errorPositionOfTheHead();
        errorPositionOfCommands();
        errorPositionOfTheWholeText();
        loading();
        loadingRefused();
        aboutNumbers();
        orderNumbers();
        lotNumbers();
        readerNumbers();
        deliveredLately();
        settings();
        asking();
        askingInFront();
        askingRefused();
        cancelling();
        raising();
        raisingRefused();
        lettingNightsPass();
        nightsTrainRules();
        nightsFrontRoom();
        nightsLapsing();
        nightsStaying();
        giving();
        changingSettings();
        lessRoomInFront();
        undoing();
        undoingAll();
        undoForgets();
        arriving();
        nextLots();
        feesThatDo();
        whatNightsWouldBring();
        bestRules();
        leastRooms();
        scriptsOfActions();
        scriptsOfTests();
        scriptsOfWrongGroups();
        scriptArguments();
        simulating();
        savingAndRestoring();
        restoringForgets();
        questionsChangeNothing();
        System.out.println("PromisesTest: " + checks + " checks, " + wrong + " wrong");
        if (wrong != 0) {
            System.exit(1);
        }
    }

    private static void due(String call, int got, int want) {
        checks++;
        if (got != want) {
            wrong++;
            System.out.println(call + " answered " + got + ", due is " + want);
        }
    }

    /** The call must throw that very class (what the machine throws is a class below it) and change nothing. */
    private static void refuses(NightTrains x, String call, Class<?> exception, Call body) {
        checks++;
        String before = picture(x);
        Class<?> thrown = null;
        try {
            body.answer();
        } catch (RuntimeException e) {
            thrown = e.getClass();
        }
        if (thrown != exception) {
            wrong++;
            System.out.println(call + " threw " + thrown + ", due is " + exception);
        }
        if (!before.equals(picture(x))) {
            wrong++;
            System.out.println(call + " threw and changed something");
        }
    }

    /** All that can be seen of an object without changing it. */
    private static String picture(NightTrains x) {
        StringBuilder b = new StringBuilder();
        for (int what = 0; what <= 10; what++) {
            b.append(x.about(what)).append(' ');
        }
        for (int i = 0; i < x.about(1); i++) {
            for (int what = 0; what <= 4; what++) {
                b.append(x.order(i, what)).append(',');
            }
        }
        for (int l = 0; l < 16; l++) {
            for (int what = 0; what <= 3; what++) {
                b.append(x.lot(l, what)).append(',');
            }
        }
        for (int what = 0; what <= 3; what++) {
            for (int c = 0; c < 4; c++) {
                b.append(x.reader(c, what)).append(',');
            }
        }
        for (int k = 0; k < 10; k++) {
            for (int what = 0; what <= 4; what++) {
                b.append(x.delivered(k, what)).append(',');
            }
        }
        for (int what = 0; what <= 4; what++) {
            b.append(x.setting(what)).append(',');
        }
        return b.append(x.errorPosition()).toString();
    }

    private static NightTrains write(NightTrains x, String signs) {
        x.clearText();
        for (int i = 0; i < signs.length(); i++) {
            x.append(signs.charAt(i));
        }
        return x;
    }

    private static NightTrains loaded(String signs) {
        NightTrains x = write(new NightTrains(), signs);
        x.load();
        return x;
    }

    private static int errorIn(String signs) {
        return write(new NightTrains(), signs).errorPosition();
    }

    // ---- promise 1

    private static void newObject() {
        NightTrains x = new NightTrains();
        for (int what = 0; what <= 10; what++) {
            due("new: about(" + what + ")", x.about(what), 0);
        }
        for (int l = 0; l < 16; l++) {
            due("new: lot(" + l + ", 0)", x.lot(l, 0), -1);
            due("new: lot(" + l + ", 1)", x.lot(l, 1), 0);
            due("new: lot(" + l + ", 2)", x.lot(l, 2), 0);
            due("new: lot(" + l + ", 3)", x.lot(l, 3), 0);
        }
        for (int c = 0; c < 4; c++) {
            due("new: reader(" + c + ", 0)", x.reader(c, 0), 50);
            due("new: reader(" + c + ", 1)", x.reader(c, 1), 0);
            due("new: reader(" + c + ", 2)", x.reader(c, 2), 0);
            due("new: reader(" + c + ", 3)", x.reader(c, 3), 0);
        }
        int[] first = {1, 3, 2, 5, 0};
        for (int what = 0; what <= 4; what++) {
            due("new: setting(" + what + ")", x.setting(what), first[what]);
        }
        due("new: delivered(0, 0)", x.delivered(0, 0), -1);
        due("new: clearText()", x.clearText(), 0);
        refuses(x, "new: undo()", STATE, () -> x.undo());
        refuses(x, "new: restore(0)", STATE, () -> x.restore(0));
        refuses(x, "new: restore(1)", STATE, () -> x.restore(1));
        due("NONE", NightTrains.NONE, -1);
    }

    // ---- promises 2 and 3

    private static void appending() {
        NightTrains x = new NightTrains();
        due("append(0)", x.append(0), 1);
        due("append(255)", x.append(255), 2);
        refuses(x, "append(-1)", ARGUMENT, () -> x.append(-1));
        refuses(x, "append(256)", ARGUMENT, () -> x.append(256));
        for (int n = 3; n <= 120; n++) {
            due("append(68) to " + n, x.append(68), n);
        }
        refuses(x, "append(68) when full", STATE, () -> x.append(68));
        refuses(x, "append(256) when full", ARGUMENT, () -> x.append(256));
        due("length after refusals", x.clearText(), 120);
    }

    private static void clearing() {
        NightTrains x = write(new NightTrains(), "D13250");
        due("clearText()", x.clearText(), 6);
        due("clearText() again", x.clearText(), 0);
        due("errorPosition() when empty", x.errorPosition(), 0);
        due("append after clearText", x.append('D'), 1);
        due("the state stays", x.about(0), 0);
    }

    // ---- promise 4

    private static void errorPositionOfTheHead() {
        due("error in ''", errorIn(""), 0);
        due("error in 'd'", errorIn("d"), 0);
        due("error in 'D'", errorIn("D"), 1);
        due("error in 'D1325'", errorIn("D1325"), 5);
        due("error in 'D13250'", errorIn("D13250"), -1);
        String[] good = {"D01110", "D46992"};
        for (String g : good) {
            due("error in '" + g + "'", errorIn(g), -1);
        }
        String[] bad = {"D51110", "D00110", "D07110", "D01010", "D01100", "D01113", "D0111/", "D0111:", "D 1110"};
        int[] at = {1, 2, 2, 3, 4, 5, 5, 5, 1};
        for (int i = 0; i < bad.length; i++) {
            due("error in '" + bad[i] + "'", errorIn(bad[i]), at[i]);
        }
        due("the first of two errors", errorIn("D91119"), 1);
        due("an error before the end of a short text", errorIn("D9"), 1);
    }

    private static void errorPositionOfCommands() {
        String head = "D13250";
        String[] good = {"o00000", "o31579", "o00979", "c00", "c19", "c09", "n1", "n9", "n1n2c00o00000"};
        for (String g : good) {
            due("error in command '" + g + "'", errorIn(head + g), -1);
        }
        String[] bad = {"x", "O", "D", "0", " ", "o4", "o02", "o016", "o0159", "o0158", "o01570o", "o0157x",
            "c2", "c0x", "c1c", "n0", "nn", "n10", "n1 ", "o0x", "o00x", "o/", "o00:", "o0000:", "o0000/", "c/", "c0:",
            "c1:", "c0/", "n:"};
        int[] at = {0, 0, 0, 0, 0, 1, 2, 3, 4, 4, 7, 5, 1, 2, 2, 1, 1, 2, 2, 2, 3, 1, 3, 5, 5, 1, 2, 2, 2, 1};
        for (int i = 0; i < bad.length; i++) {
            due("error in command '" + bad[i] + "'", errorIn(head + bad[i]), 6 + at[i]);
        }
        String[] shortOnes = {"o", "o0", "o01", "o015", "o0157", "c", "c1", "n"};
        for (String s : shortOnes) {
            due("error in short '" + s + "'", errorIn(head + s), 6 + s.length());
        }
    }

    private static void errorPositionOfTheWholeText() {
        StringBuilder b = new StringBuilder("D13250");
        for (int i = 0; i < 57; i++) {
            b.append("n1");
        }
        due("error in 120 characters", errorIn(b.toString()), -1);
        b.setLength(119);
        due("error in 119 characters", errorIn(b.toString()), 119);
        b.append('o');
        due("error at the last of 120 characters", errorIn(b.toString()), 119);
        b.setLength(118);
        b.append("o0");
        due("120 characters that end too soon", errorIn(b.toString()), 120);
        NightTrains x = write(new NightTrains(), "D13250");
        x.append(200);
        due("error at a character above 127", x.errorPosition(), 6);
    }

    // ---- promise 5

    private static void loading() {
        NightTrains x = new NightTrains();
        x.ask(0, 1, 1, 1);
        x.give(2, 10);
        x.nights(3);
        x.save(0);
        x.save(1);
        write(x, "D24911o00135o10220c01o30777n1c00c05o00139");
        // Orders 0 to 2; c01 takes lot 2's back; the train has room for lots 1 and 7; no order is left to cancel.
        due("load()", x.load(), 2);
        int[] settings = {2, 4, 9, 1, 1};
        for (int what = 0; what <= 4; what++) {
            due("load: setting(" + what + ")", x.setting(what), settings[what]);
        }
        int[] about = {1, 0, 3, 0, 1, 12, 0, 0, 2, 2, 1};
        for (int what = 0; what <= 10; what++) {
            due("load: about(" + what + ")", x.about(what), about[what]);
        }
        due("load: reader(0, 0)", x.reader(0, 0), 45);
        due("load: reader(2, 0) as in a new object", x.reader(2, 0), 50);
        due("load: lot(1, 0), asked at once", x.lot(1, 0), 0);
        due("load: lot(7, 0)", x.lot(7, 0), 1);
        due("load: delivered(0, 2)", x.delivered(0, 2), 3);
        due("load: delivered(2, 2)", x.delivered(2, 2), 3);
        due("load: delivered(3, 2)", x.delivered(3, 2), -1);
        refuses(x, "undo() after load", STATE, () -> x.undo());
        refuses(x, "restore(0) after load", STATE, () -> x.restore(0));
        refuses(x, "restore(1) after load", STATE, () -> x.restore(1));
        due("the text stays", x.clearText(), 41);
        NightTrains used = loaded("D13210o00000o10100n1o20200o30335");
        used.nights(1);
        used.ask(0, 9, 1, 1);
        write(used, "D13250");
        used.load();
        due("load: as in a new object", picture(used).equals(picture(loaded("D13250"))) ? 1 : 0, 1);
        commandsLeftOut();
    }

    private static void commandsLeftOut() {
        // Six fees of 9 are more than 50: the sixth is left out.
        NightTrains poor = write(new NightTrains(), "D13250o00009o00109o00209o00309o00409o00509");
        due("load() with too little in the purse", poor.load(), 1);
        due("orders of the poor", poor.about(1), 5);
        // 19 orders of 6 characters are all that fit, so the number of open orders never refuses one.
        StringBuilder b = new StringBuilder("D13250");
        for (int i = 0; i < 19; i++) {
            b.append("o00000");
        }
        NightTrains full = write(new NightTrains(), b.toString());
        due("load() of 19 orders", full.load(), 0);
        due("open orders of 19", full.about(1), 19);
        NightTrains none = write(new NightTrains(), "D13250");
        due("load() without commands", none.load(), 0);
        due("load() twice", none.load(), 0);
        NightTrains late = loaded("D13250n9n9");
        due("n9n9", late.about(0), 18);
        due("load() again", late.load(), 0);
        due("nights after a second load", late.about(0), 18);
    }

    private static void loadingRefused() {
        NightTrains x = new NightTrains();
        x.ask(0, 1, 1, 1);
        x.save(0);
        x.nights(1);
        refuses(x, "load() of no text", STATE, () -> x.load());
        write(x, "D1325");
        refuses(x, "load() of a short text", STATE, () -> x.load());
        write(x, "D13250z");
        refuses(x, "load() of a wrong text", STATE, () -> x.load());
        due("undo() after a refused load", x.undo(), 1);
        due("restore() after a refused load", x.restore(0), 0);
    }

    // ---- promise 6

    private static void aboutNumbers() {
        NightTrains x = new NightTrains();
        x.ask(0, 4, 0, 5);
        x.ask(1, 6, 1, 7);
        x.ask(2, 6, 2, 3);
        x.ask(3, 9, 3, 4);
        int[] asked = {0, 4, 0, 0, 0, 0, 19, 0, 0, 0, 0};
        dueAbout("asked", x, asked);
        x.nights(1);
        // Lot 6 (fees 10) came.
        dueAbout("one night", x, new int[] {1, 2, 2, 0, 0, 10, 9, 0, 1, 1, 1});
        x.cancel(1);
        dueAbout("cancelled", x, new int[] {1, 1, 2, 0, 1, 10, 5, 4, 1, 1, 1});
        x.ask(3, 6, 7, 9);
        dueAbout("asked in front", x, new int[] {1, 1, 3, 0, 1, 10, 5, 4, 1, 1, 1});
        x.set(TRAIN_ROOM, 0);
        x.nights(5);
        dueAbout("lapsed", x, new int[] {6, 0, 3, 1, 1, 10, 0, 9, 0, 1, 1});
        refuses(x, "about(-1)", ARGUMENT, () -> x.about(-1));
        refuses(x, "about(11)", ARGUMENT, () -> x.about(11));
        refuses(x, "about(min)", ARGUMENT, () -> x.about(Integer.MIN_VALUE));
        // Two lots in one night are one night in which a train took a lot.
        NightTrains two = loaded("D23250o00000o10100n2");
        due("two lots: about(9)", two.about(9), 2);
        due("two lots: about(10)", two.about(10), 1);
    }

    private static void dueAbout(String name, NightTrains x, int[] want) {
        for (int what = 0; what < want.length; what++) {
            due(name + ": about(" + what + ")", x.about(what), want[what]);
        }
    }

    // ---- promise 7

    private static void orderNumbers() {
        NightTrains x = loaded("D03990o20475n2o31509");
        int[] first = {2, 4, 7, 5, 2};
        int[] second = {3, 15, 0, 9, 0};
        for (int what = 0; what <= 4; what++) {
            due("order(0, " + what + ")", x.order(0, what), first[what]);
            due("order(1, " + what + ")", x.order(1, what), second[what]);
        }
        refuses(x, "order(2, 0)", INDEX, () -> x.order(2, 0));
        refuses(x, "order(-1, 0)", INDEX, () -> x.order(-1, 0));
        refuses(x, "order(2, 5)", INDEX, () -> x.order(2, 5));
        refuses(x, "order(0, 5)", ARGUMENT, () -> x.order(0, 5));
        refuses(x, "order(0, -1)", ARGUMENT, () -> x.order(0, -1));
        x.cancel(0);
        due("order(0, 1) after cancel", x.order(0, 1), 15);
        refuses(x, "order(1, 1) after cancel", INDEX, () -> x.order(1, 1));
    }

    // ---- promise 8

    private static void lotNumbers() {
        NightTrains x = loaded("D13250o00034o10035o20042");
        int[] waiting = {-1, 2, 9, 0};
        int[] inFront = {1, 0, 0, 1};
        for (int what = 0; what <= 3; what++) {
            due("lot(0, what) " + what, x.lot(0, what), what == 1 ? 3 : what == 2 ? 11 : waiting[what]);
        }
        x.nights(1);
        for (int what = 0; what <= 3; what++) {
            due("lot(0, " + what + ") in front", x.lot(0, what), inFront[what]);
        }
        x.nights(2);
        x.ask(0, 0, 0, 0);
        x.ask(1, 15, 0, 3);
        x.nights(1);
        due("lot(0, 3) not taken again", x.lot(0, 3), 1);
        due("lot(15, 3)", x.lot(15, 3), 1);
        x.nights(1);
        due("lot(0, 3) taken twice", x.lot(0, 3), 2);
        refuses(x, "lot(16, 0)", INDEX, () -> x.lot(16, 0));
        refuses(x, "lot(-1, 0)", INDEX, () -> x.lot(-1, 0));
        refuses(x, "lot(16, 9)", INDEX, () -> x.lot(16, 9));
        refuses(x, "lot(0, 4)", ARGUMENT, () -> x.lot(0, 4));
        refuses(x, "lot(0, -1)", ARGUMENT, () -> x.lot(0, -1));
    }

    // ---- promise 9

    private static void readerNumbers() {
        NightTrains x = loaded("D13220o00034o00105o10212o00309");
        dueReader("asked", x, 0, new int[] {32, 3, 0, 0});
        dueReader("asked", x, 1, new int[] {48, 1, 0, 0});
        x.nights(1);
        dueReader("lot 3 came", x, 0, new int[] {32, 2, 1, 0});
        x.ask(0, 3, 0, 9);
        dueReader("at once", x, 0, new int[] {32, 2, 2, 0});
        x.nights(1);
        // Lot 1 came, the fees 4 and 2 were paid back.
        dueReader("lapsed", x, 0, new int[] {36, 0, 3, 1});
        dueReader("lapsed", x, 1, new int[] {50, 0, 0, 1});
        dueReader("untouched", x, 2, new int[] {50, 0, 0, 0});
        refuses(x, "reader(4, 0)", INDEX, () -> x.reader(4, 0));
        refuses(x, "reader(-1, 0)", INDEX, () -> x.reader(-1, 0));
        refuses(x, "reader(4, 4)", INDEX, () -> x.reader(4, 4));
        refuses(x, "reader(0, 4)", ARGUMENT, () -> x.reader(0, 4));
        refuses(x, "reader(3, -1)", ARGUMENT, () -> x.reader(3, -1));
    }

    private static void dueReader(String name, NightTrains x, int c, int[] want) {
        for (int what = 0; what < want.length; what++) {
            due(name + ": reader(" + c + ", " + what + ")", x.reader(c, what), want[what]);
        }
    }

    // ---- promise 10

    private static void deliveredLately() {
        NightTrains x = loaded("D13990o10527n1o20538");
        int[] atOnce = {2, 5, 3, 0, 0};
        int[] byTrain = {1, 5, 2, 0, 7};
        for (int what = 0; what <= 4; what++) {
            due("delivered(0, " + what + ")", x.delivered(0, what), atOnce[what]);
            due("delivered(1, " + what + ")", x.delivered(1, what), byTrain[what]);
            due("delivered(2, " + what + ")", x.delivered(2, what), -1);
        }
        NightTrains late = loaded("D03990o30671n2");
        late.raise(0, 4);
        late.set(TRAIN_ROOM, 1);
        late.nights(1);
        int[] waited = {3, 6, 7, 2, 5};
        for (int what = 0; what <= 4; what++) {
            due("late: delivered(0, " + what + ")", late.delivered(0, what), waited[what]);
        }
        tenDeliveredLately(x);
        refuses(x, "delivered(10, 0)", ARGUMENT, () -> x.delivered(10, 0));
        refuses(x, "delivered(-1, 0)", ARGUMENT, () -> x.delivered(-1, 0));
        refuses(x, "delivered(0, 5)", ARGUMENT, () -> x.delivered(0, 5));
        refuses(x, "delivered(0, -1)", ARGUMENT, () -> x.delivered(0, -1));
        refuses(x, "delivered(9, 5)", ARGUMENT, () -> x.delivered(9, 5));
    }

    private static void tenDeliveredLately(NightTrains x) {
        // Lot 5 is in front: forty more at once.
        for (int i = 0; i < 40; i++) {
            x.ask(i % 4, 5, i % 8, 0);
        }
        for (int k = 0; k < 10; k++) {
            due("forty more: delivered(" + k + ", 2)", x.delivered(k, 2), (39 - k) % 8);
            due("forty more: delivered(" + k + ", 0)", x.delivered(k, 0), (39 - k) % 4);
        }
    }

    // ---- promise 11

    private static void settings() {
        NightTrains x = loaded("D46992");
        int[] want = {4, 6, 9, 9, 2};
        for (int what = 0; what <= 4; what++) {
            due("setting(" + what + ")", x.setting(what), want[what]);
        }
        refuses(x, "setting(5)", ARGUMENT, () -> x.setting(5));
        refuses(x, "setting(-1)", ARGUMENT, () -> x.setting(-1));
    }

    // ---- promise 12

    private static void asking() {
        NightTrains x = new NightTrains();
        due("ask", x.ask(0, 0, 0, 0), 0);
        due("ask", x.ask(3, 15, 7, 9), 1);
        due("ask the same again", x.ask(3, 15, 7, 9), 2);
        due("purse", x.reader(3, 0), 32);
        due("held", x.about(6), 18);
        for (int i = 3; i < 20; i++) {
            due("ask number " + i, x.ask(1, i % 16, 0, 0), i);
        }
        refuses(x, "ask with 20 open", STATE, () -> x.ask(1, 0, 0, 0));
        due("cancel makes room", x.cancel(19), 0);
        due("ask again", x.ask(2, 0, 0, 9), 19);
    }

    private static void askingInFront() {
        NightTrains x = loaded("D13990o00000n3");
        due("three nights in front", x.lot(0, 0), 3);
        due("in front", x.ask(1, 0, 4, 9), -1);
        due("the nights begin anew", x.lot(0, 0), 0);
        due("without a fee", x.reader(1, 0), 50);
        due("nothing is kept", x.about(5), 0);
        due("delivered", x.about(2), 2);
        for (int i = 0; i < 20; i++) {
            x.ask(2, 1 + i % 15, 0, 0);
        }
        due("in front with 20 open", x.ask(2, 0, 0, 9), -1);
        due("20 are open still", x.about(1), 20);
        NightTrains poor = loaded("D13990o00000n1o00109o00209o00309o00409o00509");
        due("purse", poor.reader(0, 0), 5);
        due("in front with too little in the purse", poor.ask(0, 0, 0, 9), -1);
        refuses(poor, "ask in front, item 8", ARGUMENT, () -> poor.ask(0, 0, 8, 0));
        refuses(poor, "ask in front, fee 10", ARGUMENT, () -> poor.ask(0, 0, 0, 10));
        due("undo of ask in front", poor.undo(), 0);
        due("as before", poor.about(2), 1);
    }

    private static void askingRefused() {
        NightTrains x = new NightTrains();
        refuses(x, "ask(4, ..)", INDEX, () -> x.ask(4, 0, 0, 0));
        refuses(x, "ask(-1, ..)", INDEX, () -> x.ask(-1, 0, 0, 0));
        refuses(x, "ask(0, 16, ..)", INDEX, () -> x.ask(0, 16, 0, 0));
        refuses(x, "ask(0, -1, ..)", INDEX, () -> x.ask(0, -1, 0, 0));
        refuses(x, "ask(0, 16, 8, 10)", INDEX, () -> x.ask(0, 16, 8, 10));
        refuses(x, "ask, item 8", ARGUMENT, () -> x.ask(0, 0, 8, 0));
        refuses(x, "ask, item -1", ARGUMENT, () -> x.ask(0, 0, -1, 0));
        refuses(x, "ask, fee 10", ARGUMENT, () -> x.ask(0, 0, 0, 10));
        refuses(x, "ask, fee -1", ARGUMENT, () -> x.ask(0, 0, 0, -1));
        for (int i = 0; i < 5; i++) {
            x.ask(0, i, 0, 9);
        }
        refuses(x, "ask with 5 in the purse", STATE, () -> x.ask(0, 5, 0, 6));
        refuses(x, "ask with 5 in the purse, fee 10", ARGUMENT, () -> x.ask(0, 5, 0, 10));
        due("ask for all that is in the purse", x.ask(0, 5, 0, 5), 5);
        refuses(x, "ask with nothing in the purse", STATE, () -> x.ask(0, 6, 0, 1));
        due("ask for nothing", x.ask(0, 6, 0, 0), 6);
        due("seven actions are remembered", x.undo(), 6);
    }

    // ---- promise 13

    private static void cancelling() {
        NightTrains x = loaded("D13250o00004o10105o20206");
        due("cancel(1)", x.cancel(1), 5);
        due("purse", x.reader(1, 0), 50);
        due("order(1, 0)", x.order(1, 0), 2);
        due("order(0, 0)", x.order(0, 0), 0);
        due("about(1)", x.about(1), 2);
        due("about(4)", x.about(4), 1);
        due("about(7)", x.about(7), 5);
        due("about(6)", x.about(6), 10);
        refuses(x, "cancel(2)", INDEX, () -> x.cancel(2));
        refuses(x, "cancel(-1)", INDEX, () -> x.cancel(-1));
        x.raise(0, 3);
        due("cancel after raise", x.cancel(0), 7);
        due("purse after raise and cancel", x.reader(0, 0), 50);
        x.cancel(0);
        refuses(x, "cancel(0) of none", INDEX, () -> x.cancel(0));
    }

    // ---- promise 14

    private static void raising() {
        NightTrains x = loaded("D13250o00004o10100");
        due("raise(0, 5)", x.raise(0, 5), 9);
        due("purse", x.reader(0, 0), 41);
        due("held", x.about(6), 9);
        due("raise(1, 9)", x.raise(1, 9), 9);
        due("order(1, 3)", x.order(1, 3), 9);
        due("raise counts as one action", x.undo(), 1);
        due("order(1, 3) after undo", x.order(1, 3), 0);
        due("purse after undo", x.reader(1, 0), 50);
    }

    private static void raisingRefused() {
        NightTrains x = loaded("D13250o00004");
        refuses(x, "raise(1, 1)", INDEX, () -> x.raise(1, 1));
        refuses(x, "raise(-1, 0)", INDEX, () -> x.raise(-1, 0));
        refuses(x, "raise(0, 0)", ARGUMENT, () -> x.raise(0, 0));
        refuses(x, "raise(0, 10)", ARGUMENT, () -> x.raise(0, 10));
        refuses(x, "raise(0, -1)", ARGUMENT, () -> x.raise(0, -1));
        refuses(x, "raise(0, max)", ARGUMENT, () -> x.raise(0, Integer.MAX_VALUE));
        refuses(x, "raise(0, 6)", STATE, () -> x.raise(0, 6));
        NightTrains poor = loaded("D13250o00009o00109o00209o00309o00409o00501");
        refuses(poor, "raise by more than the purse", STATE, () -> poor.raise(5, 5));
        due("raise by all that is in the purse", poor.raise(5, 4), 5);
        refuses(poor, "raise with an empty purse", STATE, () -> poor.raise(5, 1));
    }

    // ---- promise 15

    private static void lettingNightsPass() {
        NightTrains x = loaded("D13250o00004o10005o20200");
        due("nights(1)", x.nights(1), 2);
        due("nights(30)", x.nights(30), 1);
        due("about(0)", x.about(0), 31);
        due("nights(1) of none", x.nights(1), 0);
        refuses(x, "nights(0)", ARGUMENT, () -> x.nights(0));
        refuses(x, "nights(31)", ARGUMENT, () -> x.nights(31));
        refuses(x, "nights(-1)", ARGUMENT, () -> x.nights(-1));
        NightTrains order = loaded("D13250o00014o10020o20035n1");
        due("the first order is delivered first", order.delivered(2, 0), 0);
        due("the last order is delivered last", order.delivered(0, 0), 2);
    }

    private static void nightsTrainRules() {
        // Lot 5: fees 6 of one order; lot 3: fees 6 of two; lot 2: three orders without a fee, the first among them.
        String orders = "o00200o10506o20304o20302o00210o00220";
        due("rule 0, the lowest of like ones", loaded("D13250" + orders).next(0), 3);
        due("rule 1", loaded("D13251" + orders).next(0), 2);
        due("rule 2", loaded("D13252" + orders).next(0), 2);
        due("rule 0 with no fees", loaded("D13250o00900o10800o20810").next(0), 8);
        due("rule 1 with the first order's lot", loaded("D13251o00900o10809o20819").next(0), 9);
        due("rule 2, the lowest of like ones", loaded("D13252o01209o10400").next(0), 4);
        // A lot whose orders have no fee is taken all the same when there is room.
        NightTrains x = loaded("D43250" + orders);
        due("room for all three", x.nights(1), 6);
        due("lots taken", x.about(9), 3);
        NightTrains none = loaded("D03250" + orders);
        due("no room in the train", none.nights(1), 0);
    }

    private static void nightsFrontRoom() {
        // Room for two in front: the lot 4 came first and goes back.
        NightTrains x = loaded("D12991o00400n1o00700n1o00200n1");
        due("lot 4 went back", x.lot(4, 0), -1);
        due("lot 7 stays", x.lot(7, 0), 2);
        due("lot 2 is in front", x.lot(2, 0), 1);
        NightTrains lowest = loaded("D12991o00000n1o00700n1o00200n1");
        due("lot 0 went back", lowest.lot(0, 0), -1);
        due("lots in front", lowest.about(8), 2);
        due("lot 0 in front", loaded("D13250o00000n1").about(8), 1);
        // Of like ones the lowest goes back.
        NightTrains like = loaded("D22991o00700o00400n1o00200n1");
        due("lot 4, the lowest, went back", like.lot(4, 0), -1);
        due("lot 7 stays", like.lot(7, 0), 2);
        // A lot that came tonight goes back; its orders are delivered all the same.
        NightTrains tonight = loaded("D31991o00400o00700o00200");
        due("three lots through one place", tonight.nights(1), 3);
        due("the last one is in front", tonight.lot(2, 0), 1);
        due("lots in front", tonight.about(8), 1);
        due("lot 4 was taken", tonight.lot(4, 3), 1);
        // Asked at once, lot 4 is as new as lot 7 that came tonight, and lower.
        NightTrains anew = loaded("D22991o00400n2o00410o00700o00500");
        due("two lots come", anew.nights(1), 2);
        due("lot 4 asked anew went back", anew.lot(4, 0), -1);
        due("lot 7 came", anew.lot(7, 0), 1);
        due("lot 5 came", anew.lot(5, 0), 1);
    }

    private static void nightsLapsing() {
        NightTrains x = loaded("D03220o00004");
        due("nights(1)", x.nights(1), 0);
        due("order(0, 4)", x.order(0, 4), 1);
        due("purse while open", x.reader(0, 0), 46);
        x.nights(1);
        due("lapsed", x.about(3), 1);
        due("purse", x.reader(0, 0), 50);
        due("about(7)", x.about(7), 4);
        due("reader(0, 3)", x.reader(0, 3), 1);
        // The train comes before the lapsing.
        NightTrains just = loaded("D13210o00004");
        due("delivered in the last night", just.nights(1), 1);
        // Lapsing orders close up; with less patience than they have waited they lapse in the next night.
        NightTrains gap = loaded("D03290o00001n3o10102n2o20203");
        gap.set(PATIENCE, 4);
        gap.nights(1);
        due("open after the first lapsed", gap.about(1), 2);
        due("order(0, 0)", gap.order(0, 0), 1);
        due("order(0, 4)", gap.order(0, 4), 3);
        due("order(1, 4)", gap.order(1, 4), 1);
    }

    private static void nightsStaying() {
        NightTrains x = loaded("D13120o00000");
        x.nights(1);
        due("stay 1: one night in front", x.lot(0, 0), 1);
        x.nights(1);
        due("stay 1: gone after two", x.lot(0, 0), -1);
        NightTrains nine = loaded("D13990o00000");
        nine.nights(9);
        due("stay 9: nine nights in front", nine.lot(0, 0), 9);
        nine.set(STAY, 5);
        due("a shorter stay changes nothing by itself", nine.lot(0, 0), 9);
        nine.nights(1);
        due("gone in the next night", nine.lot(0, 0), -1);
    }

    // ---- promise 16

    private static void giving() {
        NightTrains x = new NightTrains();
        due("give(0, 1)", x.give(0, 1), 51);
        due("give(3, 100)", x.give(3, 100), 150);
        due("give(3, 100) again", x.give(3, 100), 250);
        due("reader(3, 0)", x.reader(3, 0), 250);
        due("reader(1, 0)", x.reader(1, 0), 50);
        refuses(x, "give(4, 1)", INDEX, () -> x.give(4, 1));
        refuses(x, "give(-1, 0)", INDEX, () -> x.give(-1, 0));
        refuses(x, "give(0, 0)", ARGUMENT, () -> x.give(0, 0));
        refuses(x, "give(0, 101)", ARGUMENT, () -> x.give(0, 101));
        refuses(x, "give(0, -1)", ARGUMENT, () -> x.give(0, -1));
    }

    // ---- promise 17

    private static void changingSettings() {
        NightTrains x = new NightTrains();
        int[] first = {1, 3, 2, 5, 0};
        int[] least = {0, 1, 1, 1, 0};
        int[] most = {4, 6, 9, 9, 2};
        for (int what = 0; what <= 4; what++) {
            int w = what;
            due("set(" + w + ", least)", x.set(w, least[w]), first[w]);
            due("set(" + w + ", most)", x.set(w, most[w]), least[w]);
            due("setting(" + w + ")", x.setting(w), most[w]);
            refuses(x, "set(" + w + ", below)", ARGUMENT, () -> x.set(w, least[w] - 1));
            refuses(x, "set(" + w + ", above)", ARGUMENT, () -> x.set(w, most[w] + 1));
        }
        refuses(x, "set(5, 1)", ARGUMENT, () -> x.set(5, 1));
        refuses(x, "set(-1, 1)", ARGUMENT, () -> x.set(-1, 1));
        due("set to what it is", x.set(RULE, 2), 2);
    }

    private static void lessRoomInFront() {
        NightTrains x = loaded("D33991o00100o00200o00300n1");
        x.set(FRONT_ROOM, 1);
        due("they stay", x.about(8), 3);
        x.nights(1);
        due("they stay overnight", x.about(8), 3);
        x.ask(0, 9, 0, 0);
        x.nights(1);
        due("all go back for one", x.about(8), 1);
        due("lot 9 is in front", x.lot(9, 0), 1);
    }

    // ---- promise 18

    private static void undoing() {
        NightTrains x = new NightTrains();
        String[] pictures = new String[10];
        pictures[0] = picture(x);
        x.ask(0, 3, 1, 4);
        pictures[1] = picture(x);
        x.raise(0, 2);
        pictures[2] = picture(x);
        x.give(0, 7);
        pictures[3] = picture(x);
        x.set(TRAIN_ROOM, 2);
        pictures[4] = picture(x);
        x.nights(3);
        pictures[5] = picture(x);
        x.ask(1, 8, 0, 0);
        pictures[6] = picture(x);
        x.cancel(0);
        pictures[7] = picture(x);
        x.ask(2, 9, 0, 3);
        pictures[8] = picture(x);
        x.set(TRAIN_ROOM, 0);
        pictures[9] = picture(x);
        x.nights(9);
        for (int left = 9; left >= 0; left--) {
            due("undo()", x.undo(), left);
            due("undo: the state before", picture(x).equals(pictures[left]) ? 1 : 0, 1);
        }
        refuses(x, "undo() of nothing", STATE, () -> x.undo());
    }

    private static void undoingAll() {
        NightTrains x = new NightTrains();
        for (int i = 0; i < 20; i++) {
            x.give(0, 1);
        }
        for (int left = 13; left >= 0; left--) {
            due("undo() of 20", x.undo(), left);
        }
        due("six could not be taken back", x.reader(0, 0), 56);
        refuses(x, "undo() of the 15th", STATE, () -> x.undo());
        x.give(0, 1);
        due("undo is no action", x.undo(), 0);
    }

    private static void undoForgets() {
        NightTrains x = new NightTrains();
        x.set(RULE, 0);
        due("an action without effect is remembered", x.undo(), 0);
        x.give(0, 1);
        x.save(0);
        x.errorPosition();
        x.append('D');
        x.would(3, 0);
        x.simulate(1, 5);
        due("only actions are remembered", x.undo(), 0);
        due("undo keeps the text", x.clearText(), 1);
        due("undo keeps the save slots", x.restore(0), 0);
        due("restored", x.reader(0, 0), 51);
    }

    // ---- promise 19

    private static void arriving() {
        NightTrains x = loaded("D13230o00001o10102o20203o30304");
        due("arrives(3)", x.arrives(3), 1);
        due("arrives(2)", x.arrives(2), 2);
        due("arrives(1)", x.arrives(1), 3);
        due("arrives(0) lapses", x.arrives(0), -1);
        refuses(x, "arrives(4)", INDEX, () -> x.arrives(4));
        refuses(x, "arrives(-1)", INDEX, () -> x.arrives(-1));
        x.set(TRAIN_ROOM, 4);
        due("arrives(0) with room", x.arrives(0), 1);
        x.set(TRAIN_ROOM, 0);
        due("arrives(3) without a train", x.arrives(3), -1);
        // An order that has waited longer than the new patience may still come with the next train.
        NightTrains late = loaded("D03990o00001o10102n5");
        late.set(PATIENCE, 2);
        late.set(TRAIN_ROOM, 1);
        due("late: arrives(1)", late.arrives(1), 1);
        due("late: arrives(0)", late.arrives(0), -1);
        // Lot 0 comes in the second night, too late for the order that has waited for two.
        NightTrains both = loaded("D03230o00000n2o10000o20109");
        both.set(TRAIN_ROOM, 1);
        due("too late: arrives(0)", both.arrives(0), -1);
        due("in time: arrives(1)", both.arrives(1), 2);
        NightTrains nine = loaded("D13992o00000o10100o20200o30300o00400o10500o20600o30700o00800o10900");
        due("the ninth night", nine.arrives(8), 9);
        due("the tenth would be too late", nine.arrives(9), -1);
    }

    // ---- promise 20

    private static void nextLots() {
        NightTrains x = loaded("D23250o00001o10102o20203");
        due("next(0)", x.next(0), 2);
        due("next(1)", x.next(1), 1);
        due("next(2)", x.next(2), -1);
        due("next(max)", x.next(Integer.MAX_VALUE), -1);
        refuses(x, "next(-1)", ARGUMENT, () -> x.next(-1));
        x.set(TRAIN_ROOM, 4);
        due("next(2) with room", x.next(2), 0);
        due("next(3) with room", x.next(3), -1);
        x.set(TRAIN_ROOM, 0);
        due("next(0) without room", x.next(0), -1);
        due("next(0) of none", new NightTrains().next(0), -1);
        NightTrains first = loaded("D23251o00901o10102o20903o00000");
        due("rule 1: next(0)", first.next(0), 9);
        due("rule 1: next(1)", first.next(1), 1);
    }

    // ---- promise 21

    private static void feesThatDo() {
        NightTrains x = loaded("D13250o00504o10503");
        due("feeFor(5), wanted already", x.feeFor(5), 0);
        due("feeFor(4), the lower lot of like ones", x.feeFor(4), 7);
        due("feeFor(6), the higher lot", x.feeFor(6), 8);
        refuses(x, "feeFor(16)", INDEX, () -> x.feeFor(16));
        refuses(x, "feeFor(-1)", INDEX, () -> x.feeFor(-1));
        x.ask(2, 5, 0, 3);
        due("feeFor(6) with 10 against it", x.feeFor(6), -1);
        due("feeFor(6) with 8 against it", loaded("D13250o00508").feeFor(6), 9);
        due("feeFor(6) with 9 against it", loaded("D13250o00509").feeFor(6), -1);
        x.nights(1);
        due("feeFor(5) in front", x.feeFor(5), 0);
        due("feeFor(0) of none", x.feeFor(0), 0);
        x.set(TRAIN_ROOM, 0);
        due("feeFor(0) without a train", x.feeFor(0), -1);
        due("feeFor(5) in front without a train", x.feeFor(5), 0);
        due("rule 1, another is first", loaded("D13251o00500").feeFor(4), -1);
        due("rule 1, alone", loaded("D13251").feeFor(4), 0);
        due("rule 2, the lower lot", loaded("D13252o00509").feeFor(4), 0);
        due("rule 2, the higher lot", loaded("D13252o00509").feeFor(6), -1);
        due("room for two", loaded("D23250o00509").feeFor(6), 0);
        NightTrains full = new NightTrains();
        for (int i = 0; i < 20; i++) {
            full.ask(i % 4, i % 2, 0, i % 2);
        }
        // Ten fees of 1 for lot 1.
        due("with 20 open: feeFor(1)", full.feeFor(1), 0);
        due("with 20 open: feeFor(2)", full.feeFor(2), -1);
        full.set(TRAIN_ROOM, 2);
        due("with 20 open and room: feeFor(2)", full.feeFor(2), 1);
        NightTrains poor = loaded("D13250o00009o00009o00009o00009o00009o10105o10105n1");
        due("a fee of 10 would be too much", poor.feeFor(4), -1);
        poor.cancel(1);
        due("that 5 are in the purse does not matter", poor.feeFor(4), 6);
    }

    // ---- promise 22

    private static void whatNightsWouldBring() {
        NightTrains x = loaded("D13220o00001o10102o20203n1");
        // Lot 2 has come; the next night brings lot 1, and the order of lot 0 lapses.
        int[] want = {1, 1, 2, 1};
        for (int what = 0; what <= 3; what++) {
            due("would(0, " + what + ")", x.would(0, what), 0);
            due("would(1, " + what + ")", x.would(1, what), want[what]);
            due("would(60, " + what + ")", x.would(60, what), want[what]);
        }
        // Two lots come in one night with three orders, and four orders lapse.
        NightTrains y = loaded("D24210o00009o10008o20107o30201o30300o20402o10500");
        int[] many = {3, 4, 24, 2};
        for (int what = 0; what <= 3; what++) {
            due("many: would(1, " + what + ")", y.would(1, what), many[what]);
        }
        refuses(x, "would(-1, 0)", ARGUMENT, () -> x.would(-1, 0));
        refuses(x, "would(61, 0)", ARGUMENT, () -> x.would(61, 0));
        refuses(x, "would(1, 4)", ARGUMENT, () -> x.would(1, 4));
        refuses(x, "would(1, -1)", ARGUMENT, () -> x.would(1, -1));
    }

    // ---- promise 23

    private static void bestRules() {
        due("bestRule() of none", new NightTrains().bestRule(), 0);
        // One night, one lot: by 0 one order with 9, by 1 one with 1, by 2 two.
        due("bestRule() 2", loaded("D13210o00001o10109o20200o20210").bestRule(), 2);
        // By 0 and by 2 two orders, by 2 the lowest lot with less fees.
        due("bestRule() 0 by the fees", loaded("D13212o00001o00011o10109o10119").bestRule(), 0);
        due("bestRule() 0 of like ones", loaded("D13212o00109o00119").bestRule(), 0);
        // By 0 one order, by 1 the first order's lot with two, by 2 the lower lot with two and smaller fees.
        due("bestRule() 1 by the fees", loaded("D13210o00503o00513o10109o20201o20211").bestRule(), 1);
        NightTrains x = loaded("D13211o00001o10109o20200o20210");
        x.bestRule();
        due("the rule stays", x.setting(RULE), 1);
        due("no train", loaded("D03211o00001o10109").bestRule(), 0);
    }

    // ---- promise 24

    private static void leastRooms() {
        due("leastRoom() of none", new NightTrains().leastRoom(), 0);
        due("the longest patience", loaded("D03990o00000").leastRoom(), 1);
        due("two lots in two nights", loaded("D03220o00000o00100").leastRoom(), 1);
        due("three lots in two nights", loaded("D03220o00000o00100o00200").leastRoom(), 2);
        due("five lots in one night", loaded("D03210o00000o00100o00200o00300o00400").leastRoom(), 5);
        NightTrains x = new NightTrains();
        x.set(PATIENCE, 1);
        for (int l = 0; l < 16; l++) {
            x.ask(l % 4, l, 0, 0);
        }
        due("all lots in one night", x.leastRoom(), 16);
        due("the room stays", x.setting(TRAIN_ROOM), 1);
        // Two orders of one lot need one room.
        due("two orders of a lot", loaded("D03211o00000o10000").leastRoom(), 1);
    }

    // ---- promise 25

    private static void scriptsOfActions() {
        NightTrains x = loaded("D13250o00504");
        dueScript(x, 1, 10070L, -1);
        dueScript(x, 1, 13159L, -1);
        dueScript(x, 1, 14000L, 0);
        dueScript(x, 1, 10160L, 0);
        dueScript(x, 1, 20000L, -1);
        dueScript(x, 1, 20100L, 0);
        dueScript(x, 1, 30005L, -1);
        dueScript(x, 1, 30006L, 0);
        dueScript(x, 1, 30000L, 0);
        dueScript(x, 1, 30105L, 0);
        dueScript(x, 1, 40001L, -1);
        dueScript(x, 1, 40030L, -1);
        dueScript(x, 1, 40031L, 0);
        dueScript(x, 1, 40000L, 0);
        dueScript(x, 1, 50040L, -1);
        dueScript(x, 1, 50050L, 0);
        dueScript(x, 1, 51000L, 0);
        dueScript(x, 1, 55010L, 0);
        // What one command changes the next one sees.
        dueScript(x, 3, 20000_10070_20000L, -1);
        dueScript(x, 3, 20000_20000_10070L, 1);
        dueScript(x, 3, 10070_20100_20100L, 2);
        dueScript(x, 3, 10073_30105_30102L, 2);
        dueScript(x, 3, 10073_30105_30101L, -1);
        dueScript(x, 3, 50000_40005_80000L, 2);
        dueScript(x, 3, 50000_40005_80001L, -1);
        due("a script changes nothing", x.about(1), 1);
        due("nor the order", x.order(0, 3), 4);
    }

    private static void dueScript(NightTrains x, int n, long script, int want) {
        due("runScript(" + n + ", " + script + ")", x.runScript(n, script), want);
    }

    private static void scriptsOfTests() {
        NightTrains x = loaded("D13250o00504n1o10520");
        dueScript(x, 1, 60501L, -1);
        dueScript(x, 1, 60500L, 0);
        dueScript(x, 1, 60400L, -1);
        dueScript(x, 1, 60401L, 0);
        dueScript(x, 1, 61500L, -1);
        dueScript(x, 1, 61600L, 0);
        dueScript(x, 1, 70001L, -1);
        dueScript(x, 1, 70002L, 0);
        dueScript(x, 1, 71001L, -1);
        dueScript(x, 1, 72000L, -1);
        dueScript(x, 1, 74000L, 0);
        dueScript(x, 1, 80000L, -1);
        dueScript(x, 1, 90004L, -1);
        dueScript(x, 1, 90005L, 0);
        dueScript(x, 1, 90999L, 0);
        for (int i = 0; i < 14; i++) {
            x.ask(3, 5, 0, 0);
        }
        dueScript(x, 1, 73014L, -1);
        dueScript(x, 1, 73015L, 0);
        // In three nights lot 5 goes back; an order without a train lapses.
        dueScript(x, 2, 40003_60500L, -1);
        NightTrains lapsing = loaded("D03210o00000");
        dueScript(lapsing, 2, 40001_80000L, 1);
        dueScript(lapsing, 2, 40001_80001L, -1);
        NightTrains many = loaded("D03210");
        for (int i = 0; i < 12; i++) {
            many.ask(i % 4, i, 0, 0);
        }
        dueScript(many, 2, 40001_80011L, 1);
        dueScript(many, 2, 40001_80012L, -1);
        // Fees of more than two digits: 12 orders with a fee of 9 are kept.
        NightTrains rich = new NightTrains();
        for (int i = 0; i < 12; i++) {
            rich.ask(i % 4, 0, 0, 9);
        }
        dueScript(rich, 2, 40001_90108L, -1);
        dueScript(rich, 2, 40001_90109L, 1);
        dueScript(rich, 2, 40001_70003L, -1);
    }

    private static void scriptsOfWrongGroups() {
        NightTrains x = loaded("D43250o00504o00604o10000n1");
        // Lots 0, 5 and 6 are in front; each of these would succeed but for one digit.
        long[] groups = {0L, 1L, 99L, 20001L, 20010L, 41001L, 40101L, 50041L, 50140L, 60011L, 60002L, 60402L, 60409L,
            70101L, 81000L, 80100L, 91000L, 30011L};
        x.ask(0, 1, 0, 0);
        for (long g : groups) {
            dueScript(x, 1, g, 0);
        }
        long[] right = {20000L, 40001L, 50040L, 60001L, 70001L, 80000L, 90000L, 30001L};
        for (long g : right) {
            dueScript(x, 1, g, -1);
        }
        // Fewer digits than 5 * n: the first group is 0 and fails.
        dueScript(x, 2, 40001L, 0);
        dueScript(x, 3, 40001_40001L, 0);
        dueScript(x, 2, 40001_00000L, 1);
    }

    private static void scriptArguments() {
        NightTrains x = new NightTrains();
        refuses(x, "runScript(0, 0)", ARGUMENT, () -> x.runScript(0, 0L));
        refuses(x, "runScript(4, 0)", ARGUMENT, () -> x.runScript(4, 0L));
        refuses(x, "runScript(-1, 0)", ARGUMENT, () -> x.runScript(-1, 0L));
        refuses(x, "runScript(1, -1)", ARGUMENT, () -> x.runScript(1, -1L));
        refuses(x, "runScript(1, 100000)", ARGUMENT, () -> x.runScript(1, 100000L));
        refuses(x, "runScript(2, 10000000000)", ARGUMENT, () -> x.runScript(2, 10000000000L));
        refuses(x, "runScript(3, 10 to the 15)", ARGUMENT, () -> x.runScript(3, 1000000000000000L));
        refuses(x, "runScript(3, max)", ARGUMENT, () -> x.runScript(3, Long.MAX_VALUE));
        refuses(x, "runScript(3, min)", ARGUMENT, () -> x.runScript(3, Long.MIN_VALUE));
        dueScript(x, 1, 99999L, 0);
        dueScript(x, 3, 999999999999999L, 0);
        dueScript(x, 3, 40001_40001_40001L, -1);
    }

    // ---- promise 26

    private static void simulating() {
        NightTrains x = new NightTrains();
        refuses(x, "simulate(0, 0)", ARGUMENT, () -> x.simulate(0L, 0));
        refuses(x, "simulate(0, 100)", ARGUMENT, () -> x.simulate(0L, 100));
        refuses(x, "simulate(0, -1)", ARGUMENT, () -> x.simulate(0L, -1));
        String before = picture(x);
        for (int i = 0; i < 40; i++) {
            long seed = i * 0x123456789ABCDEFL - 7;
            int days = 1 + i * 98 / 39;
            due("simulate(" + seed + ", " + days + ")", x.simulate(seed, days), byHand(new NightTrains(), seed, days));
        }
        due("simulate(min, 99)", x.simulate(Long.MIN_VALUE, 99), byHand(new NightTrains(), Long.MIN_VALUE, 99));
        due("simulate changes nothing", before.equals(picture(x)) ? 1 : 0, 1);
        refuses(x, "simulate is no action", STATE, () -> x.undo());
        // What was delivered, lapsed or open before.
        String start = "D03252o00109n3o10203n9o00109o30700";
        NightTrains y = loaded(start);
        due("simulate(5, 30) later", y.simulate(5L, 30), byHand(loaded(start), 5L, 30));
    }

    /** The simulation done with the object's own actions. */
    private static int byHand(NightTrains x, long seed, int days) {
        int delivered = x.about(2);
        int lapsed = x.about(3);
        long s = seed;
        for (int day = 0; day < days; day++) {
            s = s * 6364136223846793005L + 1442695040888963407L;
            int r = (int) (s >>> 33);
            try {
                x.ask(r % 4, r / 4 % 16, r / 64 % 8, r / 512 % 10);
            } catch (IllegalStateException e) {
                checks++;
            }
            if (r / 8192 % 4 == 0 && r / 32768 % 20 < x.about(1)) {
                x.cancel(r / 32768 % 20);
            }
            if (r / 1048576 % 2 == 0) {
                x.nights(1);
            }
        }
        return 10000 * (x.about(2) - delivered) + 100 * (x.about(3) - lapsed) + x.about(1);
    }

    // ---- promises 27 and 28

    private static void savingAndRestoring() {
        NightTrains x = loaded("D13250o00504n1o10620");
        String saved = picture(x);
        due("save(0)", x.save(0), 1);
        x.nights(4);
        x.set(RULE, 2);
        String other = picture(x);
        due("save(1)", x.save(1), 5);
        due("restore(0)", x.restore(0), 1);
        due("as saved", saved.equals(picture(x)) ? 1 : 0, 1);
        due("restore(1)", x.restore(1), 5);
        due("as saved in 1", other.equals(picture(x)) ? 1 : 0, 1);
        x.nights(2);
        due("the slot keeps it", x.restore(0), 1);
        x.nights(1);
        due("as saved again", x.restore(0), 1);
        due("the same", saved.equals(picture(x)) ? 1 : 0, 1);
        x.nights(1);
        due("save(0) over it", x.save(0), 2);
        x.nights(1);
        due("restore(0) of the later", x.restore(0), 2);
        refuses(x, "save(2)", INDEX, () -> x.save(2));
        refuses(x, "save(-1)", INDEX, () -> x.save(-1));
        refuses(x, "restore(2)", INDEX, () -> x.restore(2));
        refuses(x, "restore(-1)", INDEX, () -> x.restore(-1));
    }

    private static void restoringForgets() {
        NightTrains x = new NightTrains();
        x.give(0, 1);
        x.save(0);
        x.give(0, 1);
        refuses(x, "restore(1) of nothing", STATE, () -> x.restore(1));
        due("a refused restore forgets nothing", x.undo(), 1);
        x.append('D');
        due("restore(0)", x.restore(0), 0);
        refuses(x, "undo() after restore", STATE, () -> x.undo());
        due("restore keeps the text", x.clearText(), 1);
        x.give(0, 1);
        due("undo() of what came after restore", x.undo(), 0);
        due("reader(0, 0)", x.reader(0, 0), 51);
    }

    private static void questionsChangeNothing() {
        NightTrains x = loaded("D13250o00504n1o10620o10704o20803");
        x.give(1, 5);
        String before = picture(x);
        x.arrives(0);
        x.next(0);
        x.feeFor(3);
        x.would(7, 1);
        x.bestRule();
        x.leastRoom();
        x.runScript(3, 40003_10000_20000L);
        x.simulate(77L, 40);
        x.save(0);
        due("questions change nothing", before.equals(picture(x)) ? 1 : 0, 1);
        due("questions are no actions", x.undo(), 0);
    }
}
