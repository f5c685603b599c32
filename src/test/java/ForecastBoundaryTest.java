/** The boundaries of what would be: arrives, next, feeFor, would, bestRule, leastRoom. */
public final class ForecastBoundaryTest {
    private static final Bench bench = new Bench("ForecastBoundaryTest");

    public static void main(String[] args) {
        arrivesNoSuchOrder();
        arrivesInHowManyNights();
        arrivesIfNotLapsed();
        arrivesAfterLessPatience();
        nextNegative();
        nextNotSoMany();
        nextOneAfterAnother();
        feeForLots();
        feeForSmallest();
        feeForNone();
        feeForNumberAndPurses();
        feeForNextNightAtTheLatest();
        wouldRanges();
        wouldNumbers();
        wouldAtTheEdgeOfPatience();
        bestRuleMostOrders();
        bestRuleMostFees();
        bestRuleLowest();
        leastRoomAnswers();
        leastRoomOf16();
        leastRoomWhateverTheSetting();
        bench.end();
    }

    // ---- arrives

    private static void arrivesNoSuchOrder() {
        bench.sentence("`int arrives(int i) throws IndexOutOfBoundsException`: Tells when an order is delivered, "
                + "if only nights go by.");
        bench.range("arrives(i) of three", Bench.INDEX, 0, 2, Bench::busy, (x, i) -> x.arrives(i));
        bench.range("arrives(i) of 20", Bench.INDEX, 0, 19, Bench::full, (x, i) -> x.arrives(i));
        bench.refuses("arrives(0) of none", Bench.INDEX, Bench::fresh, x -> x.arrives(0));
        bench.refuses("arrives(0) when all are delivered", Bench.INDEX, () -> Bench.loaded("D13250o00000n1"),
                x -> x.arrives(0));
    }

    private static void arrivesInHowManyNights() {
        bench.sentence("Returns in how many nights, 1 for the next one; NONE if it lapses.");
        for (int patience = 1; patience <= 9; patience++) {
            NightTrains x = Bench.loaded("D139" + patience + "1");
            for (int l = 0; l <= 9; l++) {
                x.ask(l % 4, l, 0, 0);
            }
            // One lot a night, the first order's: the last one in time comes in the last night of the patience.
            for (int i = 0; i <= 9; i++) {
                bench.due("patience " + patience + ", arrives(" + i + ")", x.arrives(i),
                        i < patience ? i + 1 : Bench.NONE);
            }
        }
        NightTrains four = Bench.loaded("D43991o00000o00100o00200o00300o00400");
        bench.due("room for four, arrives(3)", four.arrives(3), 1);
        bench.due("room for four, arrives(4)", four.arrives(4), 2);
        bench.due("no room, arrives(0)", Bench.loaded("D03990o00000").arrives(0), Bench.NONE);
    }

    private static void arrivesIfNotLapsed() {
        bench.sentence("NONE if it lapses.");
        // Lot 0 comes in the second night; an order for it has waited for 1, 2 or 3 nights of 4.
        for (int waited = 1; waited <= 3; waited++) {
            NightTrains x = Bench.loaded("D03940o00000n" + waited + "o10000o20109");
            x.set(Bench.TRAIN_ROOM, 1);
            bench.due("waited " + waited + ", arrives(0)", x.arrives(0), waited <= 2 ? 2 : Bench.NONE);
            bench.due("waited 0, arrives(1)", x.arrives(1), 2);
            bench.due("the greatest fee, arrives(2)", x.arrives(2), 1);
        }
    }

    private static void arrivesAfterLessPatience() {
        bench.sentence("Those that have waited as many nights as the patience, or more, lapse.");
        NightTrains x = Bench.loaded("D03990o00001o00102n4");
        x.set(Bench.TRAIN_ROOM, 1);
        int[] second = {0, -1, -1, -1, -1, -1, 2, 2};
        for (int patience = 1; patience <= 7; patience++) {
            x.set(Bench.PATIENCE, patience);
            bench.due("waited 4 of " + patience + ", the next train: arrives(1)", x.arrives(1), 1);
            bench.due("waited 4 of " + patience + ", the one after it: arrives(0)", x.arrives(0), second[patience]);
        }
    }

    // ---- next

    private static void nextNegative() {
        bench.sentence("Throws `IllegalArgumentException` if k is negative",
                "`k`: which one, from 0");
        bench.refuses("next(-1)", Bench.ARGUMENT, Bench::busy, x -> x.next(-1));
        bench.refuses("next(min)", Bench.ARGUMENT, Bench::busy, x -> x.next(Integer.MIN_VALUE));
        bench.refuses("next(-1) of none", Bench.ARGUMENT, Bench::fresh, x -> x.next(-1));
        bench.answers("next(0) of none", Bench.NONE, Bench::fresh, x -> x.next(0));
        bench.answers("next(max) of none", Bench.NONE, Bench::fresh, x -> x.next(Integer.MAX_VALUE));
    }

    private static void nextNotSoMany() {
        bench.sentence("Returns that lot; NONE if it does not take so many.");
        for (int room = 0; room <= 4; room++) {
            NightTrains x = Bench.loaded("D" + room + "3991o00500o00600o00700o00800o00900");
            for (int k = 0; k <= 5; k++) {
                bench.due("room " + room + ", five lots, next(" + k + ")", x.next(k), k < room ? 5 + k : Bench.NONE);
            }
            bench.due("room " + room + ", five lots, next(max)", x.next(Integer.MAX_VALUE), Bench.NONE);
        }
        String[] orders = {"", "o01500", "o01500o00000", "o01500o00000o00700"};
        int[] lots = {15, 0, 7};
        for (int n = 0; n <= 3; n++) {
            NightTrains x = Bench.loaded("D43991" + orders[n]);
            for (int k = 0; k <= 4; k++) {
                bench.due("room 4, " + n + " lots, next(" + k + ")", x.next(k), k < n ? lots[k] : Bench.NONE);
            }
        }
    }

    private static void nextOneAfterAnother() {
        bench.sentence("Tells which lots the train takes in the next night.");
        // The room in front is 1: what comes goes back in the same night, and is not taken twice.
        NightTrains x = Bench.loaded("D41990o00001o00102o10000o20102");
        bench.due("next(0)", x.next(0), 1);
        bench.due("next(1)", x.next(1), 0);
        bench.due("next(2)", x.next(2), Bench.NONE);
        x.nights(1);
        bench.due("next(0) when all are delivered", x.next(0), Bench.NONE);
    }

    // ---- feeFor

    private static void feeForLots() {
        bench.sentence("`int feeFor(int l) throws IndexOutOfBoundsException`: Tells which fee would do.");
        bench.range("feeFor(l)", Bench.INDEX, 0, 15, Bench::full, (x, l) -> x.feeFor(l));
        bench.answers("feeFor(0) of none", 0, Bench::fresh, x -> x.feeFor(0));
        bench.answers("feeFor(15) of none", 0, Bench::fresh, x -> x.feeFor(15));
    }

    private static void feeForSmallest() {
        bench.sentence("Returns the smallest fee from 0 to 9 with which a new order for an item of it");
        for (int against = 0; against <= 9; against++) {
            NightTrains x = Bench.loaded("D13250o0050" + against);
            bench.due(against + " against the lower lot 4", x.feeFor(4), against);
            bench.due(against + " against the higher lot 6", x.feeFor(6), against < 9 ? against + 1 : Bench.NONE);
            bench.due(against + " for the lot itself", x.feeFor(5), 0);
        }
        // 10 and 11 against lots that have 1 already.
        NightTrains ten = Bench.loaded("D13250o00505o10505o20401o30601");
        bench.due("1 and 9 against 10, the lower lot", ten.feeFor(4), 9);
        bench.due("1 and 9 against 10, the higher lot", ten.feeFor(6), Bench.NONE);
        ten.ask(3, 6, 0, 1);
        bench.due("2 and 9 against 10, the higher lot", ten.feeFor(6), 9);
        ten.raise(0, 1);
        bench.due("1 and 9 against 11, the lower lot", ten.feeFor(4), Bench.NONE);
        bench.due("2 and 9 against 11, the higher lot", ten.feeFor(6), Bench.NONE);
    }

    private static void feeForNone() {
        bench.sentence("NONE if none does.");
        bench.due("no room", Bench.loaded("D03250").feeFor(4), Bench.NONE);
        bench.due("the last place is another's, rule 0", Bench.loaded("D23250o00509o00709").feeFor(8), Bench.NONE);
        bench.due("the last place, rule 0", Bench.loaded("D23250o00509o00708").feeFor(8), 9);
        bench.due("one place more, rule 0", Bench.loaded("D33250o00509o00709").feeFor(8), 0);
        bench.due("behind another, rule 1", Bench.loaded("D13251o00500").feeFor(4), Bench.NONE);
        bench.due("behind another, rule 1, a place more", Bench.loaded("D23251o00500").feeFor(4), 0);
        bench.due("1 against 1, rule 2, the lower lot", Bench.loaded("D13252o00509").feeFor(4), 0);
        bench.due("1 against 1, rule 2, the higher lot", Bench.loaded("D13252o00500").feeFor(6), Bench.NONE);
        bench.due("1 and 1 against 1, rule 2, the higher lot", Bench.loaded("D13252o00500o00600").feeFor(6), 0);
        bench.due("1 against 2, rule 2, the lower lot", Bench.loaded("D13252o00500o00500").feeFor(4), Bench.NONE);
    }

    /** All four purses are empty, nothing is open. */
    private static NightTrains allBroke() {
        NightTrains x = Bench.fresh();
        for (int c = 0; c < 4; c++) {
            for (int i = 0; i < 5; i++) {
                x.ask(c, 3 * c, 0, 9);
            }
            x.ask(c, 3 * c, 0, 5);
            x.nights(1);
        }
        x.nights(9);
        return x;
    }

    private static void feeForNumberAndPurses() {
        bench.sentence("(however many are open, and whatever is in purses)");
        for (int c = 0; c < 4; c++) {
            bench.due("reader(" + c + ", 0)", allBroke().reader(c, 0), 0);
        }
        NightTrains broke = allBroke();
        broke.give(0, 9);
        broke.ask(0, 7, 0, 8);
        bench.due("all purses are all but empty, feeFor(8)", broke.feeFor(8), 9);
        broke.raise(0, 1);
        bench.due("all purses are empty, feeFor(6)", broke.feeFor(6), 9);
        bench.due("all purses are empty, feeFor(8)", broke.feeFor(8), Bench.NONE);
        NightTrains full = Bench.full();
        bench.due("20 are open, feeFor(0)", full.feeFor(0), 0);
        bench.due("20 are open, feeFor(1)", full.feeFor(1), 1);
        bench.due("20 are open, feeFor(15)", full.feeFor(15), 1);
        full.raise(0, 9);
        bench.due("20 are open, 9 against it, feeFor(15)", full.feeFor(15), Bench.NONE);
        full.cancel(19);
        full.cancel(0);
        bench.due("18 are open, feeFor(15)", full.feeFor(15), 1);
    }

    private static void feeForNextNightAtTheLatest() {
        bench.sentence("would be delivered in the next night at the latest;");
        // Lot 5 is in front for two nights, and then no more.
        NightTrains x = Bench.loaded("D13250o00509n1o00609o00709");
        x.set(Bench.TRAIN_ROOM, 0);
        bench.due("in front, at once", x.feeFor(5), 0);
        x.nights(1);
        bench.due("in front for the last night", x.feeFor(5), 0);
        x.nights(1);
        bench.due("in front no more", x.feeFor(5), Bench.NONE);
        NightTrains hasty = Bench.loaded("D13210");
        bench.due("a patience of 1", hasty.feeFor(5), 0);
    }

    // ---- would

    private static void wouldRanges() {
        bench.sentence("Throws `IllegalArgumentException` if n or what is out of range");
        bench.range("would(n, 0)", Bench.ARGUMENT, 0, 60, Bench::busy, (x, n) -> x.would(n, 0));
        bench.range("would(n, 3)", Bench.ARGUMENT, 0, 60, Bench::fresh, (x, n) -> x.would(n, 3));
        bench.range("would(0, what)", Bench.ARGUMENT, 0, 3, Bench::busy, (x, what) -> x.would(0, what));
        bench.range("would(60, what)", Bench.ARGUMENT, 0, 3, Bench::fresh, (x, what) -> x.would(60, what));
        bench.refuses("would(61, 4), both wrong", Bench.ARGUMENT, Bench::busy, x -> x.would(61, 4));
    }

    private static void wouldNumbers() {
        bench.sentence("0: the orders that would be delivered in them; 1: those that would lapse; 2: the fees that "
                + "the store would keep; 3: the lots that trains would take");
        // Lots 5 (9 and 4), 6 (8), 7 (3): one a night; the patience is 2, so the order for lot 7 lapses.
        NightTrains x = Bench.loaded("D13220o00201n1o20201o00509o10504o20608o30703");
        int[][] want = {{0, 0, 0, 0}, {2, 0, 13, 1}, {3, 1, 21, 2}};
        int[] nights = {0, 1, 2, 3, 30, 31, 59, 60};
        for (int n : nights) {
            for (int what = 0; what <= 3; what++) {
                bench.due("would(" + n + ", " + what + ")", x.would(n, what), want[Math.min(n, 2)][what]);
            }
        }
        for (int what = 0; what <= 3; what++) {
            bench.due("would(60, " + what + ") of none", Bench.fresh().would(60, what), 0);
        }
    }

    private static void wouldAtTheEdgeOfPatience() {
        bench.sentence("`n`: 0 to 60");
        for (int patience = 1; patience <= 9; patience++) {
            NightTrains x = Bench.loaded("D039" + patience + "0o00709o10708");
            bench.due("patience " + patience + ", a night too few", x.would(patience - 1, 1), 0);
            bench.due("patience " + patience + ", just as many", x.would(patience, 1), 2);
            bench.due("patience " + patience + ", 60", x.would(60, 1), 2);
            bench.due("patience " + patience + ", none is delivered", x.would(60, 0), 0);
        }
    }

    // ---- bestRule

    private static void bestRuleMostOrders() {
        bench.sentence("Returns the rule by which the most open orders would be delivered before they lapse,");
        // One night, one lot: by 0 one order with 9, by 1 one with 1, by 2 two with nothing.
        bench.due("by 2 one order more", Bench.loaded("D13210o00001o10109o20200o20210").bestRule(), 2);
        bench.due("by 0 and 1 as many as by 2", Bench.loaded("D13212o00109o20200").bestRule(), 0);
        // By 1 and 2 two orders with nothing, by 0 one with 9.
        bench.due("by 1 one order more", Bench.loaded("D13210o00900o00910o10509").bestRule(), 1);
        // By 0 and 2 two orders, by 1 one.
        bench.due("by 0 one order more", Bench.loaded("D13211o00101o10209o10209").bestRule(), 0);
        // The train would come in the ninth night for the last of nine lots, by any rule.
        NightTrains nine = Bench.loaded("D13991");
        for (int l = 0; l < 9; l++) {
            nine.ask(l % 4, l, 0, 0);
        }
        bench.due("nine lots in nine nights", nine.bestRule(), 0);
    }

    /** Lots 4 and 6 can come in the next night only, lot 5 (fee 5) also in the one behind it. */
    private static NightTrains urgent(String first, String second) {
        NightTrains x = Bench.loaded("D03220" + first + second + "n1o20505");
        x.set(Bench.TRAIN_ROOM, 1);
        return x;
    }

    private static void bestRuleMostFees() {
        bench.sentence("among several that by which the store would keep the most fees");
        // By 0 lot 5 alone; by 1 the first, by 2 the lower of the other two, and then lot 5.
        bench.due("3 by 1, 4 by 2", urgent("o00603", "o10404").bestRule(), 2);
        bench.due("4 by 1, 4 by 2", urgent("o00604", "o10404").bestRule(), 1);
        bench.due("4 by 1, 3 by 2", urgent("o00604", "o10403").bestRule(), 1);
        // A third lot, for both nights: by 0 lots 5 and 6, by 1 and 2 lots 4 and 5; two orders by each.
        int[] want = {1, 0, 0};
        for (int fee = 3; fee <= 5; fee++) {
            NightTrains x = Bench.loaded("D03220o00404n1o10505o2060" + fee);
            x.set(Bench.TRAIN_ROOM, 1);
            bench.due("5 and " + fee + " by 0, 4 and 5 by 1 and 2", x.bestRule(), want[fee - 3]);
        }
    }

    private static void bestRuleLowest() {
        bench.sentence("then the lowest one.");
        for (int rule = 0; rule <= 2; rule++) {
            bench.due("none open, rule " + rule, Bench.loaded("D1325" + rule).bestRule(), 0);
            bench.due("one open, rule " + rule, Bench.loaded("D1325" + rule + "o00504").bestRule(), 0);
            bench.due("no room, rule " + rule, Bench.loaded("D0325" + rule + "o00504o10600o20600").bestRule(), 0);
        }
        bench.due("by 1 and 2 the same, more than by 0", Bench.loaded("D13212o00500o10500o20609").bestRule(), 1);
    }

    // ---- leastRoom

    private static String ordersForLots(int lots) {
        StringBuilder b = new StringBuilder();
        for (int l = 0; l < lots; l++) {
            b.append('o').append(l % 4).append(l / 10).append(l % 10).append("00");
        }
        return b.toString();
    }

    private static void leastRoomAnswers() {
        bench.sentence("Returns the smallest room of the train, 0 to 16, with which no open order would lapse;");
        bench.due("none open", Bench.fresh().leastRoom(), 0);
        // One order for each lot: in so many nights the train must bring them all.
        for (int patience = 1; patience <= 9; patience++) {
            for (int lots = 0; lots <= 16; lots++) {
                NightTrains x = Bench.loaded("D132" + patience + "1" + ordersForLots(lots));
                bench.due(lots + " lots in " + patience + " nights", x.leastRoom(), (lots + patience - 1) / patience);
            }
        }
        bench.due("20 orders of a lot", onlyLot15().leastRoom(), 1);
    }

    private static NightTrains onlyLot15() {
        NightTrains x = Bench.fresh();
        for (int i = 0; i < 20; i++) {
            x.ask(i % 4, 15, 0, 0);
        }
        x.set(Bench.PATIENCE, 1);
        return x;
    }

    private static void leastRoomOf16() {
        // A train with room for 16 lots brings them all in one night: there is always a room that is enough.
        bench.sentence("the smallest room of the train, 0 to 16, with which no open order would lapse; NONE if "
                + "there is none.");
        bench.due("4 lots in a night", Bench.loaded("D13210" + ordersForLots(4)).leastRoom(), 4);
        bench.due("5 lots in a night, above set()", Bench.loaded("D13210" + ordersForLots(5)).leastRoom(), 5);
        bench.due("15 lots in a night", Bench.loaded("D11210" + ordersForLots(15)).leastRoom(), 15);
        NightTrains all = Bench.loaded("D11210" + ordersForLots(16));
        bench.due("16 lots in a night", all.leastRoom(), 16);
        bench.due("16 lots in a night, by the rule 2", Bench.loaded("D11212" + ordersForLots(16)).leastRoom(), 16);
        for (int l = 0; l <= 2; l++) {
            all.ask(0, l, 1, 9);
        }
        bench.due("16 lots in a night, 19 orders", all.leastRoom(), 16);
        // Waited for longer than the patience is now, an order still has the next train.
        NightTrains late = Bench.loaded("D03990" + ordersForLots(16) + "n5");
        late.set(Bench.PATIENCE, 2);
        bench.due("16 lots that have waited for too long", late.leastRoom(), 16);
    }

    private static void leastRoomWhateverTheSetting() {
        bench.sentence("Tells how much room a train would need.");
        for (int room = 0; room <= 4; room++) {
            NightTrains x = Bench.loaded("D" + room + "3220" + ordersForLots(3));
            bench.due("3 lots in two nights, room " + room, x.leastRoom(), 2);
            bench.due("the room stays", x.setting(Bench.TRAIN_ROOM), room);
        }
        // What has lapsed before does not count.
        NightTrains late = Bench.loaded("D03210" + ordersForLots(5) + "n1" + ordersForLots(2));
        bench.due("five have lapsed", late.about(3), 5);
        bench.due("2 lots in a night", late.leastRoom(), 2);
    }
}
