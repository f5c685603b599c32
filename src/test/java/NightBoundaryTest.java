/** The boundaries of a night: the train's room and rules, the room in front, the lapsing, the stay; and of nights(). */
public final class NightBoundaryTest {
    private static final Bench bench = new Bench("NightBoundaryTest");

    public static void main(String[] args) {
        numberOfNights();
        howManyAreDelivered();
        roomOfTheTrain();
        fewerLotsThanRoom();
        greatestFees();
        firstOpenOrder();
        mostOpenOrders();
        afterOneLotAnother();
        roomInFront();
        longestInFront();
        cameTonight();
        inFrontForNoNights();
        firstOneFirst();
        oneNightAfterTheOther();
        waitedOneNightMore();
        waitedAsManyAsThePatience();
        lessPatience();
        inFrontOneNightMore();
        moreNightsThanTheStay();
        shorterStay();
        bench.end();
    }

    // ---- nights

    private static void numberOfNights() {
        bench.sentence("`n`: 1 to 30",
                "Throws `IllegalArgumentException` if n is out of range");
        bench.range("nights()", Bench.ARGUMENT, 1, 30, Bench::busy, (x, n) -> x.nights(n));
        int[] counts = {1, 2, 29, 30};
        for (int n : counts) {
            NightTrains x = Bench.fresh();
            bench.due("nights(" + n + ")", x.nights(n), 0);
            bench.due("about(0) behind it", x.about(0), n);
        }
    }

    private static void howManyAreDelivered() {
        bench.sentence("Returns how many orders are delivered in them.");
        bench.answers("nights(1), none open", 0, Bench::fresh, x -> x.nights(1));
        bench.answers("nights(1), no room", 0, () -> Bench.loaded("D03250o00000"), x -> x.nights(1));
        bench.answers("nights(1), one lot of ten", 2, Bench::full, x -> x.nights(1));
        // The patience is 5: the orders of five lots come, those of the others lapse.
        bench.answers("nights(4)", 8, Bench::full, x -> x.nights(4));
        bench.answers("nights(5)", 10, Bench::full, x -> x.nights(5));
        bench.answers("nights(30)", 10, Bench::full, x -> x.nights(30));
        // What was delivered before does not count, nor what is delivered at once.
        bench.answers("nights(1) later", 2, () -> {
            NightTrains x = Bench.full();
            x.nights(2);
            x.ask(0, 1, 0, 0);
            return x;
        }, x -> x.nights(1));
    }

    // ---- the train

    private static void roomOfTheTrain() {
        bench.sentence("The train takes lots, one after the other, as long as it has room, and a lot has open "
                + "orders:");
        for (int room = 0; room <= 4; room++) {
            NightTrains x = Bench.loaded("D" + room + "6991o00500o00600o00700o00800o00900");
            bench.due("room " + room + ", five lots: nights(1)", x.nights(1), room);
            bench.due("room " + room + ", five lots: about(9)", x.about(9), room);
            bench.due("room " + room + ", five lots: about(10)", x.about(10), room == 0 ? 0 : 1);
            bench.due("room " + room + ", five lots: about(8)", x.about(8), room);
            for (int l = 5; l <= 9; l++) {
                bench.due("room " + room + ", lot(" + l + ", 3)", x.lot(l, 3), l < 5 + room ? 1 : 0);
            }
        }
    }

    private static void fewerLotsThanRoom() {
        bench.sentence("as long as it has room, and a lot has open orders");
        String[] orders = {"", "o00500", "o00500o00600", "o00500o00600o00700", "o00500o00600o00700o00800"};
        for (int lots = 0; lots <= 4; lots++) {
            NightTrains x = Bench.loaded("D46990" + orders[lots]);
            bench.due("room 4, " + lots + " lots: nights(1)", x.nights(1), lots);
            bench.due("room 4, " + lots + " lots: about(9)", x.about(9), lots);
            bench.due("room 4, " + lots + " lots: about(10)", x.about(10), lots == 0 ? 0 : 1);
        }
        NightTrains cancelled = Bench.loaded("D46990o00509c00");
        bench.due("an order that is cancelled: nights(1)", cancelled.nights(1), 0);
        bench.due("an order that is cancelled: about(9)", cancelled.about(9), 0);
    }

    /** The lot that the train takes first, seen in the night itself and by next(). */
    private static void takesFirst(String name, int lot, String signs) {
        NightTrains x = Bench.loaded("D1" + signs);
        bench.due(name + ": next(0)", x.next(0), lot);
        x.nights(1);
        bench.due(name + ": about(9)", x.about(9), 1);
        bench.due(name + ": lot(" + lot + ", 3)", x.lot(lot, 3), 1);
    }

    private static void greatestFees() {
        bench.sentence("by the rule 0 the lot whose open orders have the greatest fees together, by 1 the lot of "
                + "the first open order, by 2 the lot with the most open orders; of several like ones the lowest "
                + "lot.");
        takesFirst("4 against 4", 3, "3250o00804o10304");
        takesFirst("5 against 4", 8, "3250o00805o10304");
        takesFirst("4 against 5", 3, "3250o00804o10305");
        takesFirst("4 and 4 against 8", 3, "3250o00808o10304o20304");
        takesFirst("4 and 4 against 9", 8, "3250o00809o10304o20304");
        takesFirst("4 and 4 and 1 against 8", 3, "3250o00808o10304o20304o20301");
        takesFirst("8 against 4 and 4", 3, "3250o00308o10804o20804");
        takesFirst("8 against 4 and 4 and 1", 8, "3250o00308o10804o20804o20801");
        takesFirst("9 against three orders with 8", 15, "3250o01509o00004o00004o00000");
        takesFirst("no fees, the lots 0 and 15", 0, "3250o01500o00000");
        takesFirst("no fees, the lots 14 and 15", 14, "3250o01500o01400");
        takesFirst("no fee of the only one", 15, "3250o01500");
        takesFirst("a fee of 1 against none", 15, "3250o00000o01501o00000");
    }

    private static void firstOpenOrder() {
        bench.sentence("by 1 the lot of the first open order");
        takesFirst("the first against more fees and more orders", 9, "3251o00900o10009o10009");
        takesFirst("the first is cancelled", 0, "3251o00900o10009o11500c00");
        takesFirst("the highest lot", 15, "3251o01500o00000");
        NightTrains lapsed = Bench.loaded("D03220o01500n1o01400n1");
        lapsed.set(Bench.RULE, 1);
        lapsed.set(Bench.TRAIN_ROOM, 1);
        bench.due("the first has lapsed: next(0)", lapsed.next(0), 14);
    }

    private static void mostOpenOrders() {
        bench.sentence("of several like ones the lowest lot.");
        takesFirst("1 against 1", 3, "3252o00809o10300");
        takesFirst("2 against 1", 8, "3252o00800o00800o10309");
        takesFirst("1 against 2", 3, "3252o00809o10300o10300");
        takesFirst("2 against 2", 3, "3252o00809o00809o10300o10300");
        takesFirst("3 against 2", 8, "3252o00800o00800o10309o10309o00800");
        takesFirst("1 against 1, the lots 0 and 15", 0, "3252o01509o00000");
    }

    private static void afterOneLotAnother() {
        bench.sentence("The train takes lots, one after the other");
        // By the rule 0 the lots 7 (9), 2 (5 and 3), 4 (8): 8 and 8 are like ones.
        NightTrains x = Bench.loaded("D26990o00709o10205o20203o30408");
        bench.due("rule 0: next(0)", x.next(0), 7);
        bench.due("rule 0: next(1)", x.next(1), 2);
        bench.due("rule 0: nights(1)", x.nights(1), 3);
        bench.due("rule 0: lot(4, 3)", x.lot(4, 3), 0);
        // By the rule 1 the next order of another lot.
        NightTrains y = Bench.loaded("D26991o00700o10700o20400o30200");
        bench.due("rule 1: next(1)", y.next(1), 4);
        bench.due("rule 1: nights(1)", y.nights(1), 3);
        bench.due("rule 1: lot(2, 3)", y.lot(2, 3), 0);
    }

    // ---- the room in front

    private static void roomInFront() {
        bench.sentence("If the room in front is full, the lot in front that has been there for the most nights, of "
                + "several the lowest one, perhaps one that came tonight, goes back into the deep store.");
        for (int room = 1; room <= 6; room++) {
            NightTrains x = Bench.loaded("D1" + room + "991");
            for (int came = 1; came <= 8; came++) {
                x.ask(0, 7 + came, 0, 0);
                x.nights(1);
                bench.due("room " + room + ", came " + came + ": about(8)", x.about(8), Math.min(came, room));
                bench.due("room " + room + ", came " + came + ": the last one", x.lot(7 + came, 0), 1);
                int leaves = came - room;
                if (leaves >= 1) {
                    bench.due("room " + room + ", came " + came + ": went back", x.lot(7 + leaves, 0), Bench.NONE);
                }
                bench.due("room " + room + ", came " + came + ": stays", x.lot(8 + Math.max(leaves, 0), 0),
                        Math.min(came, room));
            }
        }
    }

    private static void longestInFront() {
        bench.sentence("the lot in front that has been there for the most nights, of several the lowest one");
        NightTrains first = Bench.loaded("D12991o00900n1o00400n1o00200n1");
        bench.due("two nights against one: lot(9, 0)", first.lot(9, 0), Bench.NONE);
        bench.due("two nights against one: lot(4, 0)", first.lot(4, 0), 2);
        NightTrains like = Bench.loaded("D22991o00900o00400n1o00200n1");
        bench.due("one night each: lot(4, 0)", like.lot(4, 0), Bench.NONE);
        bench.due("one night each: lot(9, 0)", like.lot(9, 0), 2);
        NightTrains edges = Bench.loaded("D22991o01500o00000n1o00700n1");
        bench.due("the lots 0 and 15: lot(0, 0)", edges.lot(0, 0), Bench.NONE);
        bench.due("the lots 0 and 15: lot(15, 0)", edges.lot(15, 0), 2);
        // Asked in front, lot 9 begins anew: lot 4 has been there for more nights.
        NightTrains anew = Bench.loaded("D12991o00900n1o00400n1o00900o00200n1");
        bench.due("begun anew: lot(9, 0)", anew.lot(9, 0), 1);
        bench.due("begun anew: lot(4, 0)", anew.lot(4, 0), Bench.NONE);
    }

    private static void cameTonight() {
        bench.sentence("perhaps one that came tonight");
        NightTrains one = Bench.loaded("D31991o00400o00700o00200");
        bench.due("three lots through one place: nights(1)", one.nights(1), 3);
        bench.due("three lots through one place: about(8)", one.about(8), 1);
        bench.due("three lots through one place: lot(2, 0)", one.lot(2, 0), 1);
        bench.due("three lots through one place: lot(7, 0)", one.lot(7, 0), Bench.NONE);
        bench.due("three lots through one place: lot(7, 3)", one.lot(7, 3), 1);
        bench.due("three lots through one place: about(9)", one.about(9), 3);
        NightTrains two = Bench.loaded("D32991o00700o00400o00200");
        two.nights(1);
        bench.due("three lots through two places: lot(4, 0), the lower one", two.lot(4, 0), Bench.NONE);
        bench.due("three lots through two places: lot(7, 0)", two.lot(7, 0), 1);
        bench.due("three lots through two places: lot(2, 0)", two.lot(2, 0), 1);
        // Lot 9 has been there for a night and goes first; then lot 4, the lower one of those that came tonight.
        NightTrains old = Bench.loaded("D32991o00900n1o00700o00400o00200n1");
        bench.due("one of yesterday: lot(9, 0)", old.lot(9, 0), Bench.NONE);
        bench.due("one of yesterday: lot(4, 0)", old.lot(4, 0), Bench.NONE);
        bench.due("one of yesterday: lot(7, 0)", old.lot(7, 0), 1);
        bench.due("one of yesterday: lot(2, 0)", old.lot(2, 0), 1);
        // Asked today, lot 3 is as new as those of tonight, and the lowest.
        NightTrains today = Bench.loaded("D22991o00300n2o00300o00700o00500n1");
        bench.due("one asked today: lot(3, 0)", today.lot(3, 0), Bench.NONE);
        bench.due("one asked today: lot(7, 0)", today.lot(7, 0), 1);
        NightTrains higher = Bench.loaded("D22991o00900n2o00900o00700o00500n1");
        bench.due("one asked today, the highest: lot(9, 0)", higher.lot(9, 0), 1);
        bench.due("one asked today, the highest: lot(7, 0)", higher.lot(7, 0), Bench.NONE);
    }

    private static void inFrontForNoNights() {
        bench.sentence("The lot that the train takes is in front then, for 0 nights so far, and all its open "
                + "orders are delivered, the first one first.");
        NightTrains twenty = Bench.fresh();
        for (int i = 0; i < 20; i++) {
            twenty.ask(i % 4, 15, i % 8, 0);
        }
        bench.due("all 20 orders of a lot: nights(1)", twenty.nights(1), 20);
        bench.due("all 20 orders of a lot: about(1)", twenty.about(1), 0);
        bench.due("all 20 orders of a lot: lot(15, 0), 0 and the night itself", twenty.lot(15, 0), 1);
        bench.due("all 20 orders of a lot: lot(15, 3)", twenty.lot(15, 3), 1);
        // Taken again after it went back, its nights begin with 0 again.
        NightTrains again = Bench.loaded("D13120o00500n2o00500n1");
        bench.due("taken again: lot(5, 0)", again.lot(5, 0), 1);
        bench.due("taken again: lot(5, 3)", again.lot(5, 3), 2);
    }

    private static void firstOneFirst() {
        bench.sentence("all its open orders are delivered, the first one first.");
        NightTrains x = Bench.fresh();
        for (int i = 0; i < 12; i++) {
            x.ask(i / 8, i % 2 == 0 ? 3 : 4, i % 8, 0);
        }
        x.set(Bench.TRAIN_ROOM, 2);
        x.nights(1);
        // Lot 3 first: the items 0 2 4 6 0 2, then lot 4: 1 3 5 7 1 3.
        int[] items = {3, 1, 7, 5, 3, 1, 2, 0, 6, 4};
        for (int k = 0; k <= 9; k++) {
            bench.due("delivered(" + k + ", 2)", x.delivered(k, 2), items[k]);
            bench.due("delivered(" + k + ", 1)", x.delivered(k, 1), k < 6 ? 4 : 3);
        }
    }

    // ---- waiting and lapsing

    private static void oneNightAfterTheOther() {
        bench.sentence("In a night these things happen, one after the other:");
        for (int patience = 1; patience <= 9; patience++) {
            NightTrains x = Bench.loaded("D039" + patience + "0o00709");
            if (patience > 1) {
                x.nights(patience - 1);
            }
            x.set(Bench.TRAIN_ROOM, 1);
            bench.due("patience " + patience + ", taken in the last night: nights(1)", x.nights(1), 1);
            bench.due("patience " + patience + ", taken in the last night: about(3)", x.about(3), 0);
            bench.due("patience " + patience + ", taken in the last night: delivered(0, 3)", x.delivered(0, 3),
                    patience - 1);
        }
        // The train takes a lot in the room of one that would go back in the same night only.
        NightTrains x = Bench.loaded("D11190o00900n1o00400n1");
        bench.due("in the place of a lot that stays no more: lot(4, 0)", x.lot(4, 0), 1);
        bench.due("in the place of a lot that stays no more: about(8)", x.about(8), 1);
    }

    private static void waitedOneNightMore() {
        bench.sentence("All open orders have waited one night more.");
        NightTrains x = Bench.loaded("D03290o00100o00200n1o00300n1");
        int[] waited = {2, 2, 1};
        for (int i = 0; i <= 2; i++) {
            bench.due("order(" + i + ", 4)", x.order(i, 4), waited[i]);
        }
        NightTrains full = Bench.full();
        full.set(Bench.TRAIN_ROOM, 0);
        full.nights(1);
        for (int i = 0; i <= 19; i++) {
            bench.due("order(" + i + ", 4) of 20", full.order(i, 4), 1);
        }
    }

    private static void waitedAsManyAsThePatience() {
        bench.sentence("Those that have waited as many nights as the patience, or more, lapse.");
        for (int patience = 1; patience <= 9; patience++) {
            NightTrains x = Bench.loaded("D039" + patience + "0o30709");
            for (int n = 1; n < patience; n++) {
                x.nights(1);
                bench.due("patience " + patience + ", " + n + " nights: about(1)", x.about(1), 1);
                bench.due("patience " + patience + ", " + n + " nights: about(3)", x.about(3), 0);
                bench.due("patience " + patience + ", " + n + " nights: reader(3, 0)", x.reader(3, 0), 41);
            }
            x.nights(1);
            bench.due("patience " + patience + ", lapsed: about(1)", x.about(1), 0);
            bench.due("patience " + patience + ", lapsed: about(3)", x.about(3), 1);
            bench.due("patience " + patience + ", lapsed: about(7)", x.about(7), 9);
            bench.due("patience " + patience + ", lapsed: reader(3, 0)", x.reader(3, 0), 50);
            bench.due("patience " + patience + ", lapsed: reader(3, 3)", x.reader(3, 3), 1);
        }
        NightTrains all = Bench.full();
        all.set(Bench.TRAIN_ROOM, 0);
        all.nights(4);
        bench.due("20 before they lapse: about(1)", all.about(1), 20);
        all.nights(1);
        bench.due("20 lapsed: about(1)", all.about(1), 0);
        bench.due("20 lapsed: about(3)", all.about(3), 20);
    }

    private static void lessPatience() {
        bench.sentence("Those that have waited as many nights as the patience, or more, lapse.");
        for (int patience = 1; patience <= 6; patience++) {
            NightTrains x = Bench.loaded("D03990o00709n4");
            x.set(Bench.PATIENCE, patience);
            bench.due("patience " + patience + " after 4 nights: about(1), it lapses in a night only", x.about(1), 1);
            x.nights(1);
            bench.due("patience " + patience + ", the night after: about(1)", x.about(1), patience <= 5 ? 0 : 1);
            bench.due("patience " + patience + ", the night after: about(3)", x.about(3), patience <= 5 ? 1 : 0);
        }
    }

    // ---- the stay

    private static void inFrontOneNightMore() {
        bench.sentence("All lots in front have been there for one night more.");
        NightTrains x = Bench.loaded("D26991o00000o01500n1o00700n1");
        bench.due("lot(0, 0)", x.lot(0, 0), 2);
        bench.due("lot(15, 0)", x.lot(15, 0), 2);
        bench.due("lot(7, 0)", x.lot(7, 0), 1);
        bench.due("lot(1, 0)", x.lot(1, 0), Bench.NONE);
    }

    private static void moreNightsThanTheStay() {
        bench.sentence("Those that have been there for more nights than the stay go back into the deep store.");
        for (int stay = 1; stay <= 9; stay++) {
            NightTrains x = Bench.loaded("D13" + stay + "90o00700");
            for (int n = 1; n <= stay; n++) {
                x.nights(1);
                bench.due("stay " + stay + ", lot(7, 0) after " + n, x.lot(7, 0), n);
                bench.due("stay " + stay + ", about(8) after " + n, x.about(8), 1);
            }
            x.nights(1);
            bench.due("stay " + stay + ", lot(7, 0) after one more", x.lot(7, 0), Bench.NONE);
            bench.due("stay " + stay + ", about(8) after one more", x.about(8), 0);
        }
    }

    private static void shorterStay() {
        bench.sentence("for more nights than the stay");
        for (int stay = 1; stay <= 7; stay++) {
            NightTrains x = Bench.loaded("D13990o00700n5");
            x.set(Bench.STAY, stay);
            bench.due("stay " + stay + " after 5 nights: it goes back in a night only", x.lot(7, 0), 5);
            x.nights(1);
            bench.due("stay " + stay + ", the night after", x.lot(7, 0), stay <= 5 ? Bench.NONE : 6);
        }
        NightTrains asked = Bench.loaded("D13990o00700n5");
        asked.set(Bench.STAY, 1);
        asked.ask(1, 7, 0, 0);
        asked.nights(1);
        bench.due("asked in time, it stays", asked.lot(7, 0), 1);
    }
}
