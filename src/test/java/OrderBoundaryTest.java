/** The boundaries of orders and of the actions but nights() and undo(): ask, cancel, raise, give, set. */
public final class OrderBoundaryTest {
    private static final Bench bench = new Bench("OrderBoundaryTest");

    public static void main(String[] args) {
        feesOfOrders();
        deliveredAtOnce();
        feeIsTaken();
        atMost20Open();
        numbersCloseUp();
        nightsWaited();
        howAnOrderEnds();
        askReaderOrLot();
        askItemOrFee();
        askNumberOrPurse();
        askInFrontWhateverElse();
        askAnswers();
        severalExceptions();
        cancelNoSuchOrder();
        cancelAnswers();
        raiseNoSuchOrder();
        raiseBy();
        raiseFeeOrPurse();
        raiseAnswers();
        giveRanges();
        giveAnswers();
        setRanges();
        setAnswers();
        moreInFrontThanRoom();
        refusedActionsAreNone();
        bench.end();
    }

    // ---- orders

    private static void feesOfOrders() {
        bench.sentence("An order is of a reader, for an item of a lot, with a hurry fee from 0 to 9.");
        bench.range("ask(0, 0, 0, fee)", Bench.ARGUMENT, 0, 9, Bench::busy, (x, fee) -> x.ask(0, 0, 0, fee));
        for (int fee = 0; fee <= 9; fee += 9) {
            NightTrains x = Bench.fresh();
            x.ask(3, 15, 7, fee);
            int[] want = {3, 15, 7, fee, 0};
            for (int what = 0; what <= 4; what++) {
                bench.due("order(0, " + what + ")", x.order(0, what), want[what]);
            }
        }
    }

    private static void deliveredAtOnce() {
        bench.sentence("If the lot is in front, it is delivered at once, without a fee, and the nights that the "
                + "lot has been in front begin anew.");
        // The stay is 2: after two nights the lot is in front still, after three it is not.
        NightTrains last = Bench.loaded("D13250o01500n2");
        bench.due("lot(15, 0) in its last night", last.lot(15, 0), 2);
        bench.due("ask() in its last night", last.ask(2, 15, 7, 9), Bench.NONE);
        bench.due("lot(15, 0) begins anew", last.lot(15, 0), 0);
        bench.due("reader(2, 0) without a fee", last.reader(2, 0), 50);
        bench.due("about(5) without a fee", last.about(5), 0);
        bench.due("about(2)", last.about(2), 2);
        bench.due("about(1)", last.about(1), 0);
        last.nights(2);
        bench.due("lot(15, 0) two nights later", last.lot(15, 0), 2);
        last.nights(1);
        bench.due("lot(15, 0) three nights later", last.lot(15, 0), Bench.NONE);
        NightTrains gone = Bench.loaded("D13250o01500n3");
        bench.due("ask() when it has gone back", gone.ask(2, 15, 7, 9), 0);
        bench.due("reader(2, 0) with a fee", gone.reader(2, 0), 41);
        NightTrains again = Bench.loaded("D13250o01500n1o01500");
        bench.due("lot(15, 0) asked at 0 nights", again.lot(15, 0), 0);
        bench.due("ask() at 0 nights", again.ask(0, 15, 0, 0), Bench.NONE);
        bench.due("lot(15, 0) is 0 still", again.lot(15, 0), 0);
    }

    private static void feeIsTaken() {
        bench.sentence("Otherwise it is open: its fee is taken from the purse of the reader, and is held.");
        NightTrains x = Bench.poor();
        bench.due("reader(0, 0)", x.reader(0, 0), 5);
        bench.due("about(6)", x.about(6), 45);
        bench.due("ask() for all that is left", x.ask(0, 5, 0, 5), 5);
        bench.due("reader(0, 0) is empty", x.reader(0, 0), 0);
        bench.due("about(6) is all", x.about(6), 50);
        bench.due("reader(1, 0) is another's", x.reader(1, 0), 50);
        bench.due("about(5), held is not kept", x.about(5), 0);
    }

    private static NightTrains openSoMany(int n) {
        NightTrains x = Bench.fresh();
        for (int i = 0; i < n; i++) {
            x.ask(i % 4, i % 16, i % 8, 0);
        }
        return x;
    }

    private static void atMost20Open() {
        bench.sentence("At most 20 orders are open at one time; they are numbered from 0 in the order in which "
                + "they were made;");
        bench.answers("ask() with 18 open", 18, () -> openSoMany(18), x -> x.ask(0, 0, 0, 0));
        bench.answers("ask() with 19 open", 19, () -> openSoMany(19), x -> x.ask(0, 0, 0, 0));
        bench.refuses("ask() with 20 open", Bench.STATE, () -> openSoMany(20), x -> x.ask(0, 0, 0, 0));
        bench.refuses("ask() of a lot not asked for, with 20 open", Bench.STATE, Bench::full, x -> x.ask(0, 15, 0, 9));
        NightTrains x = openSoMany(20);
        for (int i = 0; i < 20; i++) {
            bench.due("order(" + i + ", 0)", x.order(i, 0), i % 4);
            bench.due("order(" + i + ", 1)", x.order(i, 1), i % 16);
            bench.due("order(" + i + ", 2)", x.order(i, 2), i % 8);
        }
        x.cancel(19);
        bench.due("ask() after a cancel", x.ask(3, 3, 3, 3), 19);
        x.nights(1);
        bench.due("about(1) after a night", x.about(1), 18);
        bench.due("ask() after a night", x.ask(3, 9, 3, 3), 18);
        bench.due("ask() again", x.ask(3, 9, 3, 3), 19);
    }

    private static void dueItems(String name, NightTrains x, String items) {
        bench.due(name + ": about(1)", x.about(1), items.length());
        for (int i = 0; i < items.length() && i < x.about(1); i++) {
            bench.due(name + ": order(" + i + ", 2)", x.order(i, 2), items.charAt(i) - '0');
        }
    }

    private static void numbersCloseUp() {
        bench.sentence("if one is open no more, those behind it get numbers that are smaller by 1.");
        // Five orders with the items 0 to 4; those of the items 1 and 3 are for lot 9.
        String five = "o00100o00910o00320o00930o00540";
        NightTrains first = Bench.loaded("D13251" + five + "c00");
        dueItems("the first cancelled", first, "1234");
        NightTrains middle = Bench.loaded("D13251" + five + "c02");
        dueItems("the middle one cancelled", middle, "0134");
        NightTrains last = Bench.loaded("D13251" + five + "c04");
        dueItems("the last cancelled", last, "0123");
        NightTrains taken = Bench.loaded("D13252" + five + "n1");
        dueItems("lot 9 taken", taken, "024");
        NightTrains firstTaken = Bench.loaded("D13251" + five + "n1");
        dueItems("lot 1 taken", firstTaken, "1234");
        NightTrains lapsed = Bench.loaded("D03220o00100o00910n1" + "o00320o00930n1" + "o00540");
        dueItems("the first two lapsed", lapsed, "234");
        NightTrains all = Bench.loaded("D03210" + five + "n1");
        dueItems("all lapsed", all, "");
        NightTrains twenty = openSoMany(20);
        twenty.cancel(0);
        bench.due("order(18, 1), of 20 the first cancelled", twenty.order(18, 1), 3);
        bench.due("order(0, 1), of 20 the first cancelled", twenty.order(0, 1), 1);
    }

    private static void nightsWaited() {
        bench.sentence("An open order knows how many nights it has waited.");
        NightTrains x = Bench.loaded("D03290o00000");
        for (int n = 0; n <= 8; n++) {
            bench.due("order(0, 4) after " + n + " nights", x.order(0, 4), n);
            bench.due("a new order's", x.order(x.ask(1, 1, 0, 0), 4), 0);
            x.nights(1);
        }
        // The first one, and the one made on the same day, have lapsed.
        bench.due("about(3) after 9 nights", x.about(3), 2);
        bench.due("order(0, 4) after 9 nights, made one day later", x.order(0, 4), 8);
    }

    private static void howAnOrderEnds() {
        bench.sentence("An open order ends when it is delivered (its held fee is kept by the store), when it "
                + "lapses, or is cancelled (in both cases its held fee goes back to the purse).");
        NightTrains x = Bench.loaded("D13210o00009o10108o20207c02");
        bench.due("reader(2, 0) cancelled", x.reader(2, 0), 50);
        bench.due("about(7) cancelled", x.about(7), 7);
        bench.due("about(6) cancelled", x.about(6), 17);
        x.nights(1);
        bench.due("reader(0, 0) delivered", x.reader(0, 0), 41);
        bench.due("about(5) delivered", x.about(5), 9);
        bench.due("reader(1, 0) lapsed", x.reader(1, 0), 50);
        bench.due("about(7) lapsed", x.about(7), 15);
        bench.due("about(6) none open", x.about(6), 0);
        bench.due("about(2)", x.about(2), 1);
        bench.due("about(3)", x.about(3), 1);
        bench.due("about(4)", x.about(4), 1);
    }

    // ---- ask

    private static void askReaderOrLot() {
        bench.sentence("Throws `IndexOutOfBoundsException` if there is no such reader or lot");
        bench.range("ask(c, 15, 7, 9)", Bench.INDEX, 0, 3, Bench::fresh, (x, c) -> x.ask(c, 15, 7, 9));
        bench.range("ask(3, l, 7, 9)", Bench.INDEX, 0, 15, Bench::fresh, (x, l) -> x.ask(3, l, 7, 9));
        bench.refuses("ask(4, ..) of a lot in front", Bench.INDEX, Bench::busy, x -> x.ask(4, 5, 0, 0));
        bench.refuses("ask(-1, ..) of a lot in front", Bench.INDEX, Bench::busy, x -> x.ask(-1, 5, 0, 0));
    }

    private static void askItemOrFee() {
        bench.sentence("Throws `IllegalArgumentException` if item or fee is out of range");
        bench.range("ask(3, 15, item, 9)", Bench.ARGUMENT, 0, 7, Bench::fresh, (x, item) -> x.ask(3, 15, item, 9));
        bench.range("ask(3, 15, 7, fee)", Bench.ARGUMENT, 0, 9, Bench::fresh, (x, fee) -> x.ask(3, 15, 7, fee));
        bench.range("ask(0, 5, item, 0) in front", Bench.ARGUMENT, 0, 7, Bench::busy,
                (x, item) -> x.ask(0, 5, item, 0));
        bench.range("ask(0, 5, 0, fee) in front", Bench.ARGUMENT, 0, 9, Bench::busy, (x, fee) -> x.ask(0, 5, 0, fee));
    }

    private static void askNumberOrPurse() {
        bench.sentence("Throws `IllegalStateException` if the lot is not in front, and besides 20 orders are open, "
                + "or the purse has less than the fee");
        bench.answers("ask(), 4 of 5", 5, Bench::poor, x -> x.ask(0, 5, 0, 4));
        bench.answers("ask(), 5 of 5", 5, Bench::poor, x -> x.ask(0, 5, 0, 5));
        bench.refuses("ask(), 6 of 5", Bench.STATE, Bench::poor, x -> x.ask(0, 5, 0, 6));
        bench.answers("ask(), 6 of another's 50", 5, Bench::poor, x -> x.ask(1, 5, 0, 6));
        Bench.Recipe broke = () -> {
            NightTrains x = Bench.poor();
            x.ask(0, 5, 0, 5);
            return x;
        };
        bench.answers("ask(), 0 of 0", 6, broke, x -> x.ask(0, 6, 0, 0));
        bench.refuses("ask(), 1 of 0", Bench.STATE, broke, x -> x.ask(0, 6, 0, 1));
        bench.refuses("ask(), 20 open", Bench.STATE, Bench::full, x -> x.ask(0, 0, 0, 0));
    }

    /** Twenty open orders, lot 15 in front, nothing in the purse of reader 0. */
    private static NightTrains fullAndBroke() {
        NightTrains x = Bench.loaded("D13990o01509n1");
        for (int i = 0; i < 4; i++) {
            x.ask(0, i, 0, 9);
        }
        x.ask(0, 4, 0, 5);
        for (int i = 0; i < 15; i++) {
            x.ask(1, i, 0, 0);
        }
        return x;
    }

    private static void askInFrontWhateverElse() {
        bench.sentence("(of a lot in front nothing of this matters)");
        bench.due("20 are open", fullAndBroke().about(1), 20);
        bench.due("nothing is in the purse", fullAndBroke().reader(0, 0), 0);
        bench.answers("ask() in front", Bench.NONE, () -> fullAndBroke(), x -> x.ask(0, 15, 7, 9));
        bench.refuses("ask() not in front", Bench.STATE, () -> fullAndBroke(), x -> x.ask(0, 14, 7, 0));
        bench.refuses("ask() in front, fee 10", Bench.ARGUMENT, () -> fullAndBroke(), x -> x.ask(0, 15, 7, 10));
        bench.refuses("ask() in front, item 8", Bench.ARGUMENT, () -> fullAndBroke(), x -> x.ask(0, 15, 8, 9));
        bench.refuses("ask() in front, reader 4", Bench.INDEX, () -> fullAndBroke(), x -> x.ask(4, 15, 7, 9));
        NightTrains x = fullAndBroke();
        x.ask(0, 15, 7, 9);
        bench.due("20 are open still", x.about(1), 20);
        bench.due("nothing is in the purse still", x.reader(0, 0), 0);
        bench.due("delivered(0, 4)", x.delivered(0, 4), 0);
    }

    private static void askAnswers() {
        bench.sentence("Returns the number of the open order; NONE if it is delivered at once.");
        bench.answers("ask() with none open", 0, Bench::fresh, x -> x.ask(0, 0, 0, 0));
        bench.answers("ask() with three open", 3, Bench::busy, x -> x.ask(0, 0, 0, 0));
        bench.answers("ask() in front", Bench.NONE, Bench::busy, x -> x.ask(0, 5, 0, 0));
    }

    private static void severalExceptions() {
        bench.sentence("If several exceptions apply to a call, the one that its description names first is thrown.");
        bench.refuses("ask(4, 0, 8, 0)", Bench.INDEX, Bench::busy, x -> x.ask(4, 0, 8, 0));
        bench.refuses("ask(0, 16, 0, 10)", Bench.INDEX, Bench::busy, x -> x.ask(0, 16, 0, 10));
        bench.refuses("ask(-1, -1, -1, -1)", Bench.INDEX, Bench::busy, x -> x.ask(-1, -1, -1, -1));
        bench.refuses("ask(4, 0, 0, 0), 20 open", Bench.INDEX, Bench::full, x -> x.ask(4, 0, 0, 0));
        bench.refuses("ask(0, 0, 8, 0), 20 open", Bench.ARGUMENT, Bench::full, x -> x.ask(0, 0, 8, 0));
        bench.refuses("ask(0, 0, 0, 10), 20 open", Bench.ARGUMENT, Bench::full, x -> x.ask(0, 0, 0, 10));
        bench.refuses("ask(0, 5, 0, 10), 5 in the purse", Bench.ARGUMENT, Bench::poor, x -> x.ask(0, 5, 0, 10));
        bench.refuses("ask(0, 5, 8, 9), 5 in the purse", Bench.ARGUMENT, Bench::poor, x -> x.ask(0, 5, 8, 9));
        bench.refuses("raise(3, 0), three open", Bench.INDEX, Bench::busy, x -> x.raise(3, 0));
        bench.refuses("raise(-1, 10), three open", Bench.INDEX, Bench::busy, x -> x.raise(-1, 10));
        bench.refuses("raise(0, 10), 5 in the purse", Bench.ARGUMENT, Bench::poor, x -> x.raise(0, 10));
        bench.refuses("raise(0, 0), 5 in the purse", Bench.ARGUMENT, Bench::poor, x -> x.raise(0, 0));
        bench.refuses("give(4, 0)", Bench.INDEX, Bench::busy, x -> x.give(4, 0));
        bench.refuses("give(-1, 101)", Bench.INDEX, Bench::busy, x -> x.give(-1, 101));
    }

    // ---- cancel

    private static void cancelNoSuchOrder() {
        bench.sentence("`int cancel(int i) throws IndexOutOfBoundsException`: Cancels an open order.");
        bench.range("cancel(i) of three", Bench.INDEX, 0, 2, Bench::busy, (x, i) -> x.cancel(i));
        bench.range("cancel(i) of 20", Bench.INDEX, 0, 19, Bench::full, (x, i) -> x.cancel(i));
        bench.range("cancel(i) of one", Bench.INDEX, 0, 0, () -> openSoMany(1), (x, i) -> x.cancel(i));
        bench.refuses("cancel(0) of none", Bench.INDEX, Bench::fresh, x -> x.cancel(0));
        bench.refuses("cancel(0) when all are delivered", Bench.INDEX, () -> Bench.loaded("D13250o00004n1"),
                x -> x.cancel(0));
        bench.refuses("cancel(0) when all have lapsed", Bench.INDEX, () -> Bench.loaded("D03210o00004n1"),
                x -> x.cancel(0));
        bench.refuses("cancel(0) when all are cancelled", Bench.INDEX, () -> Bench.loaded("D03210o00004c00"),
                x -> x.cancel(0));
    }

    private static void cancelAnswers() {
        bench.sentence("Returns the fee that is paid back.");
        bench.answers("cancel() of no fee", 0, Bench::full, x -> x.cancel(19));
        bench.answers("cancel() of a fee of 9", 9, Bench::poor, x -> x.cancel(4));
        NightTrains x = Bench.poor();
        for (int i = 0; i < 5; i++) {
            bench.due("cancel(0)", x.cancel(0), 9);
            bench.due("reader(0, 0)", x.reader(0, 0), 14 + 9 * i);
            bench.due("about(7)", x.about(7), 9 + 9 * i);
        }
        bench.due("about(1)", x.about(1), 0);
    }

    // ---- raise

    private static void raiseNoSuchOrder() {
        bench.sentence("`int raise(int i, int by) throws IndexOutOfBoundsException, IllegalArgumentException, "
                + "IllegalStateException`: Raises the fee of an open order.");
        bench.range("raise(i, 9) of 20", Bench.INDEX, 0, 19, Bench::full, (x, i) -> x.raise(i, 9));
        bench.range("raise(i, 1) of one", Bench.INDEX, 0, 0, () -> openSoMany(1), (x, i) -> x.raise(i, 1));
        bench.refuses("raise(3, 1) of three", Bench.INDEX, Bench::busy, x -> x.raise(3, 1));
        bench.refuses("raise(0, 1) of none", Bench.INDEX, Bench::fresh, x -> x.raise(0, 1));
    }

    private static void raiseBy() {
        bench.sentence("`by`: 1 to 9",
                "Throws `IllegalArgumentException` if by is out of range");
        bench.range("raise(2, by)", Bench.ARGUMENT, 1, 9, Bench::busy, (x, by) -> x.raise(2, by));
    }

    private static void raiseFeeOrPurse() {
        bench.sentence("Throws `IllegalStateException` if the fee would be above 9, or the purse of its reader has "
                + "less than by");
        Bench.Recipe four = () -> Bench.loaded("D13250o00004");
        bench.answers("raise() to 8", 8, four, x -> x.raise(0, 4));
        bench.answers("raise() to 9", 9, four, x -> x.raise(0, 5));
        bench.refuses("raise() to 10", Bench.STATE, four, x -> x.raise(0, 6));
        bench.refuses("raise() to 13", Bench.STATE, four, x -> x.raise(0, 9));
        bench.answers("raise() of 0 to 9", 9, Bench::full, x -> x.raise(0, 9));
        bench.refuses("raise() of 1 to 10", Bench.STATE, () -> Bench.loaded("D13250o00001"), x -> x.raise(0, 9));
        bench.refuses("raise() of 9 to 10", Bench.STATE, () -> Bench.loaded("D13250o00009"), x -> x.raise(0, 1));
        Bench.Recipe fiveLeft = () -> {
            NightTrains x = Bench.poor();
            x.ask(0, 5, 0, 0);
            x.ask(1, 5, 0, 0);
            return x;
        };
        bench.answers("raise(), 4 of 5", 4, fiveLeft, x -> x.raise(5, 4));
        bench.answers("raise(), 5 of 5", 5, fiveLeft, x -> x.raise(5, 5));
        bench.refuses("raise(), 6 of 5", Bench.STATE, fiveLeft, x -> x.raise(5, 6));
        bench.answers("raise(), 6 of another's 50", 6, fiveLeft, x -> x.raise(6, 6));
        Bench.Recipe nothingLeft = () -> {
            NightTrains x = fiveLeft.make();
            x.raise(5, 5);
            return x;
        };
        bench.refuses("raise(), 1 of 0", Bench.STATE, nothingLeft, x -> x.raise(5, 1));
    }

    private static void raiseAnswers() {
        bench.sentence("Returns its fee then.");
        NightTrains x = Bench.fresh();
        x.ask(3, 15, 0, 0);
        for (int fee = 1; fee <= 9; fee++) {
            bench.due("raise(0, 1)", x.raise(0, 1), fee);
            bench.due("order(0, 3)", x.order(0, 3), fee);
            bench.due("reader(3, 0)", x.reader(3, 0), 50 - fee);
            bench.due("about(6)", x.about(6), fee);
        }
    }

    // ---- give, set

    private static void giveRanges() {
        bench.sentence("`v`: 1 to 100",
                "Throws `IllegalArgumentException` if v is out of range");
        bench.range("give(3, v)", Bench.ARGUMENT, 1, 100, Bench::busy, (x, v) -> x.give(3, v));
        bench.range("give(c, 100)", Bench.INDEX, 0, 3, Bench::busy, (x, c) -> x.give(c, 100));
    }

    private static void giveAnswers() {
        bench.sentence("Returns what is in it then.");
        bench.answers("give(0, 1)", 51, Bench::fresh, x -> x.give(0, 1));
        bench.answers("give(3, 100)", 150, Bench::fresh, x -> x.give(3, 100));
        bench.answers("give(0, 1) to 5", 6, Bench::poor, x -> x.give(0, 1));
        NightTrains x = Bench.poor();
        x.give(0, 1);
        bench.due("ask(), 6 of 6", x.ask(0, 5, 0, 6), 5);
        bench.due("give(0, 100) to 0", x.give(0, 100), 100);
    }

    private static void setRanges() {
        bench.sentence("Throws `IllegalArgumentException` if what or v is out of range");
        bench.range("set(what, 1)", Bench.ARGUMENT, 0, 4, Bench::busy, (x, what) -> x.set(what, 1));
        bench.refuses("set(-1, -1), both wrong", Bench.ARGUMENT, Bench::busy, x -> x.set(-1, -1));
        bench.refuses("set(5, 10), both wrong", Bench.ARGUMENT, Bench::busy, x -> x.set(5, 10));
    }

    private static void setAnswers() {
        bench.sentence("Returns the previous one.");
        int[] first = {1, 3, 2, 5, 0};
        int[] least = {0, 1, 1, 1, 0};
        int[] most = {4, 6, 9, 9, 2};
        NightTrains x = Bench.fresh();
        for (int what = 0; what <= 4; what++) {
            bench.due("set(" + what + ", least)", x.set(what, least[what]), first[what]);
            bench.due("set(" + what + ", most)", x.set(what, most[what]), least[what]);
            bench.due("set(" + what + ", most) again", x.set(what, most[what]), most[what]);
        }
        for (int what = 0; what <= 4; what++) {
            bench.due("setting(" + what + ")", x.setting(what), most[what]);
        }
    }

    /** Six lots in front, 0 to 5, the lots 0 to 3 for two nights and the others for one. */
    private static NightTrains sixInFront() {
        return Bench.loaded("D46991o00000o00100o00200o00300o00400o00500n2");
    }

    private static void moreInFrontThanRoom() {
        bench.sentence("(If there are more lots in front than there is room then, they stay, until a train takes a "
                + "lot: then lots go back until there is room for it.)");
        bench.due("in front", sixInFront().about(8), 6);
        for (int room = 1; room <= 6; room++) {
            NightTrains x = sixInFront();
            x.set(Bench.FRONT_ROOM, room);
            bench.due("room " + room + ": they stay", x.about(8), 6);
            x.nights(1);
            bench.due("room " + room + ": they stay overnight", x.about(8), 6);
            x.ask(0, 15, 0, 0);
            x.nights(1);
            bench.due("room " + room + ": a lot came", x.about(8), room);
            bench.due("room " + room + ": it is in front", x.lot(15, 0), 1);
            // The first ones go: of six, six less the room and one more.
            for (int l = 0; l <= 5; l++) {
                boolean back = l < 7 - room;
                bench.due("room " + room + ": lot(" + l + ", 0)", x.lot(l, 0), back ? Bench.NONE : l < 4 ? 4 : 3);
            }
        }
        NightTrains idle = sixInFront();
        idle.set(Bench.FRONT_ROOM, 1);
        idle.set(Bench.TRAIN_ROOM, 0);
        idle.ask(0, 15, 0, 0);
        idle.nights(1);
        bench.due("a train without room takes none: they stay", idle.about(8), 6);
    }

    private static void refusedActionsAreNone() {
        bench.sentence("A call that throws an exception changes nothing.");
        bench.refuses("ask()", Bench.INDEX, Bench::busy, x -> x.ask(4, 0, 0, 0));
        bench.refuses("ask()", Bench.ARGUMENT, Bench::busy, x -> x.ask(0, 0, 8, 0));
        bench.refuses("ask() with 20 open", Bench.STATE, Bench::full, x -> x.ask(0, 0, 0, 0));
        bench.refuses("ask() with 5 in the purse", Bench.STATE, Bench::poor, x -> x.ask(0, 0, 0, 6));
        bench.refuses("cancel()", Bench.INDEX, Bench::busy, x -> x.cancel(3));
        bench.refuses("raise()", Bench.STATE, Bench::busy, x -> x.raise(1, 1));
        bench.refuses("nights()", Bench.ARGUMENT, Bench::busy, x -> x.nights(0));
        bench.refuses("give()", Bench.ARGUMENT, Bench::busy, x -> x.give(0, 0));
        bench.refuses("set()", Bench.ARGUMENT, Bench::busy, x -> x.set(Bench.STAY, 0));
    }
}
