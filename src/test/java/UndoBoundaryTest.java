/** The boundaries of what is remembered: no state, 14 states, one more; and of the save slots. */
public final class UndoBoundaryTest {
    private static final Bench bench = new Bench("UndoBoundaryTest");

    public static void main(String[] args) {
        everyActionCounts();
        nothingBecomesDifferent();
        refusedCallsDoNotCount();
        questionsDoNotCount();
        atMost14();
        oneMoreForgetsTheOldest();
        aRing();
        noneRemembered();
        howManyAreStillRemembered();
        textAndSlotsStay();
        loadAndRestore();
        saveSlots();
        saveAnswers();
        restoreSlots();
        restoreOfNothing();
        sinceTheLastLoad();
        restoreForgets();
        slotKeepsIt();
        bench.end();
    }

    private static NightTrains given(int times) {
        NightTrains x = Bench.fresh();
        for (int i = 0; i < times; i++) {
            x.give(0, 1);
        }
        return x;
    }

    // ---- actions

    /** One undo takes back the call: all is as before it. */
    private static void isOneAction(String call, Bench.Recipe recipe, Bench.Call body) {
        String before = Bench.whatThereIs(recipe.make());
        NightTrains x = recipe.make();
        body.on(x);
        int left = x.undo();
        bench.due(call + ", undo()", Bench.whatThereIs(x), before);
        NightTrains y = recipe.make();
        bench.due(call + ", states left", left, countUndos(y));
    }

    private static int countUndos(NightTrains x) {
        int undos = 0;
        for (int i = 0; i < 20; i++) {
            try {
                x.undo();
                undos++;
            } catch (IllegalStateException e) {
                return undos;
            }
        }
        return undos;
    }

    private static void everyActionCounts() {
        bench.sentence("Each call of one of them that does not throw an exception is an action, also if nothing "
                + "becomes different (undo is none).");
        bench.due("busy has seven actions", countUndos(Bench.busy()), 7);
        isOneAction("ask()", Bench::busy, x -> x.ask(1, 0, 0, 9));
        isOneAction("ask() in front", Bench::busy, x -> x.ask(1, 5, 0, 9));
        isOneAction("cancel()", Bench::busy, x -> x.cancel(0));
        isOneAction("raise()", Bench::busy, x -> x.raise(2, 9));
        isOneAction("nights(1)", Bench::busy, x -> x.nights(1));
        isOneAction("nights(30)", Bench::busy, x -> x.nights(30));
        isOneAction("nights(1) before the order lapses", Bench::eventful, x -> x.nights(1));
        isOneAction("nights(2) with an order that lapses", Bench::eventful, x -> x.nights(2));
        isOneAction("cancel() of the only order", Bench::eventful, x -> x.cancel(0));
        isOneAction("give()", Bench::busy, x -> x.give(0, 100));
        isOneAction("set()", Bench::busy, x -> x.set(Bench.STAY, 9));
        NightTrains x = given(3);
        x.undo();
        x.undo();
        bench.due("undo is none", x.undo(), 0);
    }

    private static void nothingBecomesDifferent() {
        bench.sentence("also if nothing becomes different");
        for (int what = 0; what <= 4; what++) {
            int w = what;
            isOneAction("set(" + w + ", what it is)", Bench::busy, x -> x.set(w, x.setting(w)));
            NightTrains x = given(1);
            x.set(w, x.setting(w));
            bench.due("set(" + w + ", what it is), undo()", x.undo(), 1);
            bench.due("reader(0, 0) stays", x.reader(0, 0), 51);
        }
        // The 14 states are those before the last 14 actions, also if none made a difference.
        NightTrains x = given(1);
        for (int i = 0; i < 14; i++) {
            x.set(Bench.RULE, 0);
        }
        bench.due("undos behind 14 such actions", countUndos(x), 14);
        bench.due("reader(0, 0), the first action is forgotten", x.reader(0, 0), 51);
    }

    private static void refusedCallsDoNotCount() {
        bench.sentence("Each call of one of them that does not throw an exception is an action");
        Bench.Recipe fourteen = () -> given(14);
        bench.refuses("ask()", Bench.INDEX, fourteen, x -> x.ask(0, 16, 0, 0));
        bench.refuses("ask()", Bench.ARGUMENT, fourteen, x -> x.ask(0, 0, 8, 0));
        bench.refuses("cancel()", Bench.INDEX, fourteen, x -> x.cancel(0));
        bench.refuses("raise()", Bench.INDEX, fourteen, x -> x.raise(0, 1));
        bench.refuses("nights()", Bench.ARGUMENT, fourteen, x -> x.nights(31));
        bench.refuses("give()", Bench.ARGUMENT, fourteen, x -> x.give(0, 101));
        bench.refuses("give()", Bench.INDEX, fourteen, x -> x.give(4, 1));
        bench.refuses("set()", Bench.ARGUMENT, fourteen, x -> x.set(Bench.TRAIN_ROOM, 5));
        bench.refuses("restore()", Bench.STATE, fourteen, x -> x.restore(0));
        bench.refuses("load()", Bench.STATE, fourteen, x -> x.load());
    }

    private static void questionsDoNotCount() {
        bench.sentence("Ahead of the calls `arrives`, `next`, `feeFor`, `would`, `bestRule`, `leastRoom` the "
                + "interface says: ---- what would be; these and all following methods up to the save slots change "
                + "nothing.");
        bench.changesNothing("arrives(2)", Bench::busy, x -> x.arrives(2));
        bench.changesNothing("next(0)", Bench::busy, x -> x.next(0));
        bench.changesNothing("next(1)", Bench::busy, x -> x.next(1));
        bench.changesNothing("feeFor(6)", Bench::busy, x -> x.feeFor(6));
        bench.changesNothing("feeFor(15) of 20", Bench::full, x -> x.feeFor(15));
        bench.changesNothing("would(60, 0)", Bench::busy, x -> x.would(60, 0));
        bench.changesNothing("bestRule()", Bench::busy, x -> x.bestRule());
        bench.changesNothing("leastRoom()", Bench::busy, x -> x.leastRoom());
        bench.changesNothing("runScript() of three actions", Bench::busy, x -> x.runScript(3, 10009_20000_40030L));
        bench.changesNothing("runScript() of raise and set", Bench::busy, x -> x.runScript(2, 30201_52010L));
        bench.changesNothing("simulate(1, 99)", Bench::busy, x -> x.simulate(1L, 99));
    }

    // ---- what is remembered

    private static void atMost14() {
        bench.sentence("At most 14 states are remembered; when one more is remembered, the oldest one is forgotten.");
        int[] actions = {0, 1, 13, 14, 15, 16, 28, 29};
        for (int n : actions) {
            NightTrains x = given(n);
            bench.due("undos behind " + n + " actions", countUndos(x), Math.min(n, 14));
            bench.due("reader(0, 0) behind " + n + " actions and all undos", x.reader(0, 0), 50 + Math.max(0, n - 14));
        }
    }

    private static void oneMoreForgetsTheOldest() {
        bench.sentence("when one more is remembered, the oldest one is forgotten.");
        NightTrains fourteen = given(14);
        NightTrains fifteen = given(15);
        for (int left = 13; left >= 0; left--) {
            bench.due("of 14 actions, undo()", fourteen.undo(), left);
            bench.due("of 14 actions, reader(0, 0)", fourteen.reader(0, 0), 50 + left);
            bench.due("of 15 actions, undo()", fifteen.undo(), left);
            bench.due("of 15 actions, reader(0, 0)", fifteen.reader(0, 0), 51 + left);
        }
        bench.refuses("the 15th undo()", Bench.STATE, () -> {
            NightTrains x = given(15);
            countUndos(x);
            return x;
        }, x -> x.undo());
    }

    private static void aRing() {
        bench.sentence("Takes back the last action that is remembered.",
                "Before each action, the state is remembered.");
        // Undone and done again round about: what is remembered is always what was before the last actions.
        NightTrains x = given(14);
        for (int round = 0; round < 5; round++) {
            for (int i = 0; i < 5; i++) {
                x.undo();
            }
            for (int i = 0; i < 6; i++) {
                x.give(0, 1);
            }
        }
        bench.due("reader(0, 0)", x.reader(0, 0), 69);
        for (int left = 13; left >= 0; left--) {
            bench.due("undo()", x.undo(), left);
            bench.due("reader(0, 0)", x.reader(0, 0), 55 + left);
        }
    }

    private static void noneRemembered() {
        bench.sentence("Throws `IllegalStateException` if none is remembered");
        bench.refuses("undo() of a new object", Bench.STATE, Bench::fresh, x -> x.undo());
        bench.refuses("undo() behind the last undo()", Bench.STATE, () -> {
            NightTrains x = given(1);
            x.undo();
            return x;
        }, x -> x.undo());
        bench.refuses("undo() behind a refused undo()", Bench.STATE, () -> {
            NightTrains x = given(1);
            countUndos(x);
            return x;
        }, x -> x.undo());
        NightTrains x = given(2);
        countUndos(x);
        x.give(0, 5);
        bench.due("undo() of an action behind a refused undo()", x.undo(), 0);
        bench.due("reader(0, 0)", x.reader(0, 0), 50);
    }

    private static void howManyAreStillRemembered() {
        bench.sentence("Returns how many states are still remembered.");
        bench.answers("undo() of one", 0, () -> given(1), x -> x.undo());
        bench.answers("undo() of two", 1, () -> given(2), x -> x.undo());
        bench.answers("undo() of 14", 13, () -> given(14), x -> x.undo());
        bench.answers("undo() of 15", 13, () -> given(15), x -> x.undo());
    }

    private static void textAndSlotsStay() {
        bench.sentence("The methods in the section \"actions\" change the state, which consists of everything but "
                + "the text and the save slots.");
        NightTrains x = given(1);
        x.append('D');
        x.save(1);
        x.undo();
        bench.due("reader(0, 0) behind undo()", x.reader(0, 0), 50);
        bench.due("append() behind undo()", x.append('1'), 2);
        bench.due("restore(1) behind undo()", x.restore(1), 0);
        bench.due("reader(0, 0) restored", x.reader(0, 0), 51);
    }

    private static void loadAndRestore() {
        bench.sentence("load and restore are not actions.");
        bench.refuses("undo() behind load()", Bench.STATE, () -> Bench.loaded("D13250o00500n1"), x -> x.undo());
        bench.refuses("undo() behind restore()", Bench.STATE, () -> {
            NightTrains x = Bench.busy();
            x.restore(1);
            return x;
        }, x -> x.undo());
    }

    // ---- save slots

    private static void saveSlots() {
        bench.sentence("Throws `IndexOutOfBoundsException` if there is no such save slot");
        bench.range("save()", Bench.INDEX, 0, 1, Bench::busy, (x, slot) -> x.save(slot));
        bench.range("save() on a new object", Bench.INDEX, 0, 1, Bench::fresh, (x, slot) -> x.save(slot));
        bench.range("restore()", Bench.INDEX, 0, 1, Bench::busy, (x, slot) -> x.restore(slot));
    }

    private static void saveAnswers() {
        bench.sentence("`int save(int slot) throws IndexOutOfBoundsException`: Stores the present state in a save "
                + "slot.");
        NightTrains x = Bench.fresh();
        bench.due("save(0) of no nights", x.save(0), 0);
        x.nights(30);
        bench.due("save(1) of 30 nights", x.save(1), 30);
        x.nights(1);
        bench.due("restore(0)", x.restore(0), 0);
        bench.due("about(0)", x.about(0), 0);
        bench.due("restore(1)", x.restore(1), 30);
        bench.due("about(0)", x.about(0), 30);
        bench.due("save(0) over the other", x.save(0), 30);
        x.nights(2);
        bench.due("restore(0) of the later", x.restore(0), 30);
        NightTrains y = given(2);
        y.save(0);
        bench.due("save is no action, and forgets none", y.undo(), 1);
    }

    private static void restoreSlots() {
        bench.sentence("IndexOutOfBoundsException means that a reader, a lot or an open order does not exist, or "
                + "that a save slot is not 0 or 1.");
        bench.refuses("restore(2), nothing saved", Bench.INDEX, Bench::fresh, x -> x.restore(2));
        bench.refuses("restore(-1), nothing saved", Bench.INDEX, Bench::fresh, x -> x.restore(-1));
        bench.range("restore() of both", Bench.INDEX, 0, 1, Bench::busy, (x, slot) -> x.restore(slot));
    }

    private static void restoreOfNothing() {
        bench.sentence("Throws `IllegalStateException` if nothing has been saved in it since the last load");
        bench.refuses("restore(0) of a new object", Bench.STATE, Bench::fresh, x -> x.restore(0));
        bench.refuses("restore(1) of a new object", Bench.STATE, Bench::fresh, x -> x.restore(1));
        Bench.Recipe only0 = () -> {
            NightTrains x = given(3);
            x.save(0);
            return x;
        };
        Bench.Recipe only1 = () -> {
            NightTrains x = given(3);
            x.save(1);
            return x;
        };
        bench.refuses("restore(1), only 0 saved", Bench.STATE, only0, x -> x.restore(1));
        bench.refuses("restore(0), only 1 saved", Bench.STATE, only1, x -> x.restore(0));
        bench.answers("restore(0), only 0 saved", 0, only0, x -> x.restore(0));
        bench.answers("restore(1), only 1 saved", 0, only1, x -> x.restore(1));
    }

    private static void sinceTheLastLoad() {
        bench.sentence("if nothing has been saved in it since the last load");
        Bench.Recipe savedAndLoaded = () -> {
            NightTrains x = Bench.written("D13250n1");
            x.save(0);
            x.save(1);
            x.load();
            return x;
        };
        bench.refuses("restore(0) behind load()", Bench.STATE, savedAndLoaded, x -> x.restore(0));
        bench.refuses("restore(1) behind load()", Bench.STATE, savedAndLoaded, x -> x.restore(1));
        NightTrains x = savedAndLoaded.make();
        x.save(1);
        x.nights(1);
        bench.due("restore(1) of what is saved behind load()", x.restore(1), 1);
        NightTrains refused = Bench.written("D1325");
        refused.save(0);
        refused.nights(1);
        try {
            refused.load();
        } catch (IllegalStateException e) {
            refused.nights(1);
        }
        bench.due("restore(0) behind a refused load()", refused.restore(0), 0);
    }

    private static void restoreForgets() {
        bench.sentence("Replaces the state by the one in a save slot, and forgets all remembered states.");
        NightTrains x = Bench.busy();
        String saved = savedPicture();
        bench.due("restore(0) of busy", x.restore(0), 1);
        bench.due("all is as it was saved", Bench.whatThereIs(x), saved);
        bench.due("undos behind restore()", countUndos(x), 0);
        NightTrains eventful = Bench.eventful();
        eventful.save(1);
        eventful.nights(2);
        eventful.restore(1);
        bench.due("all is as it was before an order lapsed", Bench.whatThereIs(eventful),
                Bench.whatThereIs(Bench.eventful()));
        NightTrains fourteen = given(14);
        fourteen.save(0);
        fourteen.restore(0);
        fourteen.give(0, 1);
        bench.due("undo() of the only action behind restore()", fourteen.undo(), 0);
        bench.due("reader(0, 0)", fourteen.reader(0, 0), 64);
    }

    /** What busy() has saved in slot 0. */
    private static String savedPicture() {
        NightTrains x = Bench.written("D23451o30172n1o00504");
        x.ask(0, 5, 0, 4);
        x.nights(1);
        return Bench.whatThereIs(x);
    }

    private static void slotKeepsIt() {
        bench.sentence("The save slot keeps it.");
        NightTrains x = Bench.busy();
        for (int round = 0; round < 2; round++) {
            x.restore(0);
            x.ask(1, 5, 0, 0);
            x.ask(1, 6, 0, 9);
            x.set(Bench.STAY, 9);
            x.give(3, 100);
            x.nights(3);
        }
        x.restore(0);
        bench.due("restored a third time", Bench.whatThereIs(x), savedPicture());
        bench.due("about(0) of the other slot", x.restore(1), 1);
        bench.due("about(1) of the other slot", x.about(1), 1);
        bench.due("reader(2, 0) of the other slot", x.reader(2, 0), 57);
    }
}
