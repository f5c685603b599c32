/** The boundaries of what there is: lots, readers, settings, open orders, orders delivered lately. */
public final class StateBoundaryTest {
    private static final Bench bench = new Bench("StateBoundaryTest");

    public static void main(String[] args) {
        sixteenLots();
        deepStoreAtFirst();
        fourReaders();
        firstSettings();
        withoutOrders();
        numbersOfAbout();
        countsAtTheirEdges();
        openOrders();
        orderNumbers();
        lots();
        lotInFrontOrNot();
        lotNumbers();
        readers();
        readerNumbers();
        deliveredLately();
        deliveredNumbers();
        settingNumbers();
        none();
        useOf512Calls();
        bench.end();
    }

    private static void sixteenLots() {
        bench.sentence("There are 16 lots, numbered from 0, with 8 items each, numbered from 0.");
        bench.range("lot(l, 0)", Bench.INDEX, 0, 15, Bench::busy, (x, l) -> x.lot(l, 0));
        bench.range("ask(0, l, 0, 0)", Bench.INDEX, 0, 15, Bench::busy, (x, l) -> x.ask(0, l, 0, 0));
        bench.range("feeFor(l)", Bench.INDEX, 0, 15, Bench::busy, (x, l) -> x.feeFor(l));
        bench.range("ask(0, 0, item, 0)", Bench.ARGUMENT, 0, 7, Bench::busy, (x, item) -> x.ask(0, 0, item, 0));
        for (int l = 0; l <= 15; l += 15) {
            for (int item = 0; item <= 7; item += 7) {
                NightTrains x = Bench.fresh();
                x.ask(0, l, item, 0);
                bench.due("its lot", x.order(0, 1), l);
                bench.due("its item", x.order(0, 2), item);
                bench.due("the open orders of the lot", x.lot(l, 1), 1);
                bench.due("the open orders of the other", x.lot(15 - l, 1), 0);
            }
        }
    }

    private static void deepStoreAtFirst() {
        bench.sentence("A lot is in the deep store (at first), or in the front room.");
        NightTrains x = Bench.fresh();
        for (int l = 0; l <= 15; l++) {
            bench.due("at first, lot(" + l + ", 0)", x.lot(l, 0), Bench.NONE);
        }
        bench.due("lots in front at first", x.about(8), 0);
    }

    private static void fourReaders() {
        bench.sentence("There are 4 readers, numbered from 0, each with a purse, at first 50.");
        bench.range("reader(c, 0)", Bench.INDEX, 0, 3, Bench::busy, (x, c) -> x.reader(c, 0));
        bench.range("ask(c, 0, 0, 0)", Bench.INDEX, 0, 3, Bench::busy, (x, c) -> x.ask(c, 0, 0, 0));
        bench.range("give(c, 1)", Bench.INDEX, 0, 3, Bench::busy, (x, c) -> x.give(c, 1));
        NightTrains x = Bench.fresh();
        for (int c = 0; c <= 3; c++) {
            bench.due("reader(" + c + ", 0) at first", x.reader(c, 0), 50);
        }
    }

    private static void firstSettings() {
        bench.sentence("There are settings: 0: the train's room, 0 to 4 lots, at first 1; 1: the room in front, 1 "
                + "to 6 lots, at first 3; 2: the stay, 1 to 9 nights, at first 2; 3: the patience, 1 to 9 nights, "
                + "at first 5; 4: the rule, 0 to 2, at first 0.");
        int[] first = {1, 3, 2, 5, 0};
        for (int what = 0; what <= 4; what++) {
            bench.due("setting(" + what + ") at first", Bench.fresh().setting(what), first[what]);
        }
        bench.range("set(0, v)", Bench.ARGUMENT, 0, 4, Bench::busy, (x, v) -> x.set(Bench.TRAIN_ROOM, v));
        bench.range("set(1, v)", Bench.ARGUMENT, 1, 6, Bench::busy, (x, v) -> x.set(Bench.FRONT_ROOM, v));
        bench.range("set(2, v)", Bench.ARGUMENT, 1, 9, Bench::busy, (x, v) -> x.set(Bench.STAY, v));
        bench.range("set(3, v)", Bench.ARGUMENT, 1, 9, Bench::busy, (x, v) -> x.set(Bench.PATIENCE, v));
        bench.range("set(4, v)", Bench.ARGUMENT, 0, 2, Bench::busy, (x, v) -> x.set(Bench.RULE, v));
    }

    private static void withoutOrders() {
        bench.sentence("Creates a store without orders.");
        NightTrains x = Bench.fresh();
        for (int what = 0; what <= 10; what++) {
            bench.due("about(" + what + ") of a new object", x.about(what), 0);
        }
        for (int c = 0; c <= 3; c++) {
            for (int what = 1; what <= 3; what++) {
                bench.due("reader(" + c + ", " + what + ") of a new object", x.reader(c, what), 0);
            }
        }
        for (int l = 0; l <= 15; l++) {
            for (int what = 1; what <= 3; what++) {
                bench.due("lot(" + l + ", " + what + ") of a new object", x.lot(l, what), 0);
            }
        }
        bench.refuses("order(0, 0) of a new object", Bench.INDEX, Bench::fresh, y -> y.order(0, 0));
        bench.refuses("cancel(0) of a new object", Bench.INDEX, Bench::fresh, y -> y.cancel(0));
        bench.refuses("undo() of a new object", Bench.STATE, Bench::fresh, y -> y.undo());
        bench.refuses("load() of a new object", Bench.STATE, Bench::fresh, y -> y.load());
    }

    // ---- about

    private static void numbersOfAbout() {
        bench.sentence("Throws `IllegalArgumentException` if what is not 0 to 10",
                "0: the nights so far; 1: the open orders; 2: the orders that were delivered so far, at once or by a "
                + "train; 3: those that lapsed so far; 4: those that were cancelled so far; 5: the fees that the store "
                + "kept so far; 6: the fees that are held; 7: the fees that were paid back so far; "
                + "8: the lots in front;");
        bench.range("about()", Bench.ARGUMENT, 0, 10, Bench::busy, (x, what) -> x.about(what));
        int[] eventful = {2, 1, 2, 2, 1, 8, 7, 7, 2, 2, 2};
        for (int what = 0; what <= 10; what++) {
            bench.due("much has happened, about(" + what + ")", Bench.eventful().about(what), eventful[what]);
        }
        // Two nights with one train, which took lot 5 for a fee of 4; one of 3 and one of 2 are held.
        NightTrains x = Bench.loaded("D13250o00504n2o10603o20702");
        int[] want = {2, 2, 1, 0, 0, 4, 5, 0, 1, 1, 1};
        for (int what = 0; what <= 10; what++) {
            bench.due("about(" + what + ")", x.about(what), want[what]);
        }
    }

    private static void countsAtTheirEdges() {
        bench.sentence("9: the lots that trains took so far; 10: the nights so far in which a train took a lot");
        NightTrains none = Bench.loaded("D03250o00500n1");
        bench.due("a train without room: about(9)", none.about(9), 0);
        bench.due("a train without room: about(10)", none.about(10), 0);
        NightTrains idle = Bench.loaded("D43250n9");
        bench.due("nothing to take: about(9)", idle.about(9), 0);
        bench.due("nothing to take: about(10)", idle.about(10), 0);
        NightTrains four = Bench.loaded("D43250o00500o00600o00700o00800n1");
        bench.due("four lots in one night: about(9)", four.about(9), 4);
        bench.due("four lots in one night: about(10)", four.about(10), 1);
        NightTrains most = Bench.fresh();
        for (int i = 0; i < 20; i++) {
            most.ask(i % 4, 15, 7, 9);
        }
        bench.due("20 fees of 9 held: about(6)", most.about(6), 180);
        bench.due("20 fees of 9 for a lot: lot(15, 2)", most.lot(15, 2), 180);
        bench.due("20 orders for a lot: lot(15, 1)", most.lot(15, 1), 20);
        bench.due("20 delivered in a night", most.nights(1), 20);
        bench.due("20 fees of 9 kept: about(5)", most.about(5), 180);
        bench.due("nothing held: about(6)", most.about(6), 0);
    }

    // ---- order

    private static void openOrders() {
        bench.sentence("Throws `IndexOutOfBoundsException` if there is no such open order");
        bench.range("order(i, 0) of three", Bench.INDEX, 0, 2, Bench::busy, (x, i) -> x.order(i, 0));
        bench.range("order(i, 4) of 20", Bench.INDEX, 0, 19, Bench::full, (x, i) -> x.order(i, 4));
        bench.refuses("order(0, 0) of none", Bench.INDEX, () -> Bench.loaded("D13250o00500n1"), x -> x.order(0, 0));
        bench.refuses("order(-1, 0) of none", Bench.INDEX, Bench::fresh, x -> x.order(-1, 0));
        bench.refuses("order(3, 5), both wrong", Bench.INDEX, Bench::busy, x -> x.order(3, 5));
        bench.refuses("order(-1, -1), both wrong", Bench.INDEX, Bench::busy, x -> x.order(-1, -1));
    }

    private static void orderNumbers() {
        bench.sentence("0: its reader; 1: its lot; 2: its item; 3: its fee; 4: how many nights it has waited",
                "Throws `IllegalArgumentException` if what is not 0 to 4");
        bench.range("order(0, what)", Bench.ARGUMENT, 0, 4, Bench::busy, (x, what) -> x.order(0, what));
        NightTrains x = Bench.loaded("D03250o31579o00000n4");
        int[] most = {3, 15, 7, 9, 4};
        int[] least = {0, 0, 0, 0, 4};
        for (int what = 0; what <= 4; what++) {
            bench.due("order(0, " + what + ")", x.order(0, what), most[what]);
            bench.due("order(1, " + what + ")", x.order(1, what), least[what]);
        }
    }

    // ---- lot

    private static void lots() {
        bench.sentence("Throws `IndexOutOfBoundsException` if there is no such lot");
        bench.refuses("lot(16, 4), both wrong", Bench.INDEX, Bench::busy, x -> x.lot(16, 4));
        bench.refuses("lot(-1, -1), both wrong", Bench.INDEX, Bench::busy, x -> x.lot(-1, -1));
        bench.range("lot(l, 3)", Bench.INDEX, 0, 15, Bench::fresh, (x, l) -> x.lot(l, 3));
    }

    private static void lotInFrontOrNot() {
        bench.sentence("0: the nights for which it has been in front, NONE if it is not;");
        NightTrains x = Bench.loaded("D13250o01500");
        int[] nights = {Bench.NONE, 1, 2, Bench.NONE, Bench.NONE};
        for (int n = 0; n <= 4; n++) {
            bench.due("lot(15, 0) after " + n + " nights", x.lot(15, 0), nights[n]);
            bench.due("lots in front after " + n + " nights", x.about(8), nights[n] == Bench.NONE ? 0 : 1);
            x.nights(1);
        }
    }

    private static void lotNumbers() {
        bench.sentence("1: the number of its open orders; 2: their fees together; 3: how often a train took it so "
                + "far",
                "Throws `IllegalArgumentException` if what is not 0 to 3");
        bench.range("lot(0, what)", Bench.ARGUMENT, 0, 3, Bench::busy, (x, what) -> x.lot(0, what));
        NightTrains x = Bench.loaded("D13250o00004o10005o20001");
        bench.due("lot(0, 1)", x.lot(0, 1), 3);
        bench.due("lot(0, 2)", x.lot(0, 2), 10);
        bench.due("lot(0, 3) not taken", x.lot(0, 3), 0);
        x.nights(1);
        bench.due("lot(0, 1) delivered", x.lot(0, 1), 0);
        bench.due("lot(0, 2) delivered", x.lot(0, 2), 0);
        bench.due("lot(0, 3) taken", x.lot(0, 3), 1);
        x.ask(0, 0, 0, 0);
        x.nights(1);
        bench.due("lot(0, 3) asked in front", x.lot(0, 3), 1);
    }

    // ---- reader

    private static void readers() {
        bench.sentence("Throws `IndexOutOfBoundsException` if there is no such reader");
        bench.refuses("reader(4, 4), both wrong", Bench.INDEX, Bench::busy, x -> x.reader(4, 4));
        bench.refuses("reader(-1, -1), both wrong", Bench.INDEX, Bench::busy, x -> x.reader(-1, -1));
        bench.range("reader(c, 3)", Bench.INDEX, 0, 3, Bench::fresh, (x, c) -> x.reader(c, 3));
    }

    private static void readerNumbers() {
        bench.sentence("0: its purse; 1: the number of its open orders; 2: how many of its orders were delivered "
                + "so far; 3: how many lapsed so far",
                "Throws `IllegalArgumentException` if what is not 0 to 3");
        bench.range("reader(0, what)", Bench.ARGUMENT, 0, 3, Bench::busy, (x, what) -> x.reader(0, what));
        // Of reader 3 two orders were delivered by the train and one at once; one is open.
        NightTrains x = Bench.loaded("D13220o30501o30600n1o30500n1o31002");
        int[] want = {47, 1, 3, 0};
        int[] nothing = {50, 0, 0, 0};
        for (int what = 0; what <= 3; what++) {
            bench.due("reader(3, " + what + ")", x.reader(3, what), want[what]);
            bench.due("reader(0, " + what + ")", x.reader(0, what), nothing[what]);
        }
        x.set(Bench.TRAIN_ROOM, 0);
        x.nights(1);
        bench.due("reader(3, 3) before it lapses", x.reader(3, 3), 0);
        bench.due("reader(3, 0) before it lapses", x.reader(3, 0), 47);
        x.nights(1);
        bench.due("reader(3, 3) lapsed", x.reader(3, 3), 1);
        bench.due("reader(3, 1) lapsed", x.reader(3, 1), 0);
        bench.due("reader(3, 0) lapsed", x.reader(3, 0), 49);
        bench.due("reader(2, 3) of another", x.reader(2, 3), 0);
    }

    // ---- delivered

    private static NightTrains deliveredSoMany(int n) {
        NightTrains x = Bench.loaded("D13990" + "o00001n1".repeat(Math.min(n, 1)));
        for (int i = 1; i < n; i++) {
            x.ask(i % 4, 0, i % 8, 0);
        }
        return x;
    }

    private static void deliveredLately() {
        bench.sentence("Returns that number; NONE if there were not so many.",
                "`k`: which one, 0 the last one, 1 the one before it, and so on up to 9");
        int[] counts = {0, 1, 2, 9, 10, 11, 12, 25};
        for (int n : counts) {
            NightTrains x = deliveredSoMany(n);
            bench.due("delivered so far", x.about(2), n);
            for (int k = 0; k <= 9; k++) {
                bench.due(n + " delivered, delivered(" + k + ", 0)", x.delivered(k, 0),
                        k < n ? (n - 1 - k) % 4 : Bench.NONE);
                bench.due(n + " delivered, delivered(" + k + ", 2)", x.delivered(k, 2),
                        k < n ? (n - 1 - k) % 8 : Bench.NONE);
                bench.due(n + " delivered, delivered(" + k + ", 4)", x.delivered(k, 4),
                        k < n ? k == n - 1 ? 1 : 0 : Bench.NONE);
            }
        }
    }

    private static void deliveredNumbers() {
        bench.sentence("Throws `IllegalArgumentException` if k is not 0 to 9, or what is not 0 to 4");
        bench.range("delivered(k, 0)", Bench.ARGUMENT, 0, 9, Bench::busy, (x, k) -> x.delivered(k, 0));
        bench.range("delivered(0, what)", Bench.ARGUMENT, 0, 4, Bench::busy, (x, what) -> x.delivered(0, what));
        bench.range("delivered(k, 4) of 25", Bench.ARGUMENT, 0, 9, () -> deliveredSoMany(25),
                (x, k) -> x.delivered(k, 4));
        bench.range("delivered(k, 0) of none", Bench.ARGUMENT, 0, 9, Bench::fresh, (x, k) -> x.delivered(k, 0));
        bench.range("delivered(9, what) of none", Bench.ARGUMENT, 0, 4, Bench::fresh,
                (x, what) -> x.delivered(9, what));
        bench.sentence("3: how many nights it had waited (0 if it was delivered at once); 4: the fee that the store "
                + "kept for it");
        // Delivered in the last night of its patience, and at once.
        NightTrains x = Bench.loaded("D03990o31579n8");
        x.set(Bench.TRAIN_ROOM, 1);
        x.nights(1);
        x.ask(0, 15, 0, 9);
        int[] last = {0, 15, 0, 0, 0};
        int[] before = {3, 15, 7, 8, 9};
        for (int what = 0; what <= 4; what++) {
            bench.due("delivered(0, " + what + ") at once", x.delivered(0, what), last[what]);
            bench.due("delivered(1, " + what + ") by the train", x.delivered(1, what), before[what]);
            bench.due("delivered(2, " + what + ")", x.delivered(2, what), Bench.NONE);
        }
    }

    // ---- setting, the constants, the use of an object

    private static void settingNumbers() {
        bench.sentence("Throws `IllegalArgumentException` if what is out of range");
        bench.range("setting()", Bench.ARGUMENT, 0, 4, Bench::busy, (x, what) -> x.setting(what));
    }

    private static void none() {
        bench.sentence("`NONE = -1`: There is no such result.");
        bench.due("NONE", NightTrains.NONE, -1);
    }

    /** One night, 497 actions, 13 undos and one last question are 512 calls. */
    private static void useOf512Calls() {
        bench.sentence("An object is used for at most 512 calls after it has been made");
        NightTrains x = Bench.fresh();
        x.nights(1);
        for (int i = 0; i < 497; i++) {
            bench.due("give() number " + i, x.give(i % 4, 100), 150 + 100 * (i / 4));
        }
        for (int left = 13; left >= 1; left--) {
            bench.due("undo()", x.undo(), left);
        }
        // 484 gifts are left, 121 for each.
        bench.due("reader(3, 0), the 512th call", x.reader(3, 0), 12150);
    }
}
