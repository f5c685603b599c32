import java.util.Arrays;

/** A deep store that answers tomorrow: readers order items, and night trains bring the lots in which they lie. */
public final class NightTrains {
    public static final int NONE = -1;

    private static final int LOTS = 16;
    private static final int READERS = 4;
    private static final int ITEMS = 8;
    private static final int MOST_FEE = 9;
    private static final int MOST_OPEN = 20;
    private static final int FIRST_PURSE = 50;
    private static final int MOST_GIVEN = 100;
    private static final int MOST_NIGHTS = 30;
    private static final int MOST_NIGHTS_AHEAD = 60;
    private static final int MOST_DAYS = 99;
    private static final int LATELY = 10;
    private static final int REMEMBERED = 14;
    private static final int SLOTS = 2;

    // The settings, numbered as in setting(), and their ranges.
    private static final int TRAIN_ROOM = 0;
    private static final int FRONT_ROOM = 1;
    private static final int STAY = 2;
    private static final int PATIENCE = 3;
    private static final int RULE = 4;
    private static final int SETTINGS = 5;
    private static final int[] SETTING_LEAST = {0, 1, 1, 1, 0};
    private static final int[] SETTING_MOST = {4, 6, 9, 9, 2};
    private static final int[] SETTING_FIRST = {1, 3, 2, 5, 0};

    private static final int RULE_FEES = 0;
    private static final int RULE_FIRST_ORDER = 1;
    private static final int RULES = 3;

    // The longest patience: after so many nights every order that is open now has ended.
    private static final int NIGHTS_TO_THE_END = 9;

    // The numbers of about().
    private static final int NIGHTS = 0;
    private static final int OPEN = 1;
    private static final int DELIVERED = 2;
    private static final int LAPSED = 3;
    private static final int CANCELLED = 4;
    private static final int KEPT = 5;
    private static final int HELD = 6;
    private static final int PAID_BACK = 7;
    private static final int IN_FRONT = 8;
    private static final int TAKEN = 9;
    private static final int TRAIN_NIGHTS = 10;
    private static final int NUMBERS = 11;

    // The numbers of an order, as in order().
    private static final int READER = 0;
    private static final int LOT = 1;
    private static final int ITEM = 2;
    private static final int FEE = 3;
    private static final int WAITED = 4;
    private static final int ORDER_NUMBERS = 5;

    // One more than a script's group of five digits can be.
    private static final int GROUP = 100000;
    private static final int MOST_GROUPS = 3;

    private final Text text = new Text();
    private final Store now = new Store();
    private final Store trial = new Store();
    private final History history = new History();
    private final Store[] slots = new Store[SLOTS];
    private final boolean[] saved = new boolean[SLOTS];

    public NightTrains() {
        for (int slot = 0; slot < SLOTS; slot++) {
            slots[slot] = new Store();
        }
    }

    // ---- text

    public int append(int c) throws IllegalArgumentException, IllegalStateException {
        if (c < 0 || c > 255) {
            throw new IllegalArgumentException("a character code is 0 to 255");
        }
        if (text.isFull()) {
            throw new IllegalStateException("the text is full");
        }
        return text.add((char) c);
    }

    public int clearText() {
        return text.empty();
    }

    public int errorPosition() {
        return text.firstWrong();
    }

    public int load() throws IllegalStateException {
        if (text.firstWrong() != NONE) {
            throw new IllegalStateException("the text is not a store");
        }
        history.forget();
        for (int slot = 0; slot < SLOTS; slot++) {
            saved[slot] = false;
        }
        now.reset();
        for (int what = 0; what < SETTINGS; what++) {
            now.change(what, text.digitAt(1 + what));
        }
        int leftOut = 0;
        for (int at = Text.HEAD; at < text.length(); at += 1 + text.digitsOfCommand(at)) {
            if (!obey(at)) {
                leftOut++;
            }
        }
        return leftOut;
    }

    /** Does the text's command that begins there; answers whether it was allowed. */
    private boolean obey(int at) {
        switch (text.signAt(at)) {
            case 'o':
                return now.placeIfAllowed(text.digitAt(at + 1), text.pairAt(at + 2),
                        text.digitAt(at + 4), text.digitAt(at + 5));
            case 'c':
                return now.dropIfAllowed(text.pairAt(at + 1));
            case 'n':
                now.passNights(text.digitAt(at + 1));
                return true;
            default:
                return false;
        }
    }

    // ---- what there is

    public int about(int what) throws IllegalArgumentException {
        if (what < 0 || what >= NUMBERS) {
            throw new IllegalArgumentException("what is 0 to 10");
        }
        return now.number(what);
    }

    public int order(int i, int what) throws IndexOutOfBoundsException, IllegalArgumentException {
        if (!now.open.has(i)) {
            throw new IndexOutOfBoundsException("no such open order");
        }
        if (!isOrderNumber(what)) {
            throw new IllegalArgumentException("what is 0 to 4");
        }
        return now.open.get(i, what);
    }

    public int lot(int l, int what) throws IndexOutOfBoundsException, IllegalArgumentException {
        if (!isLot(l)) {
            throw new IndexOutOfBoundsException("no such lot");
        }
        switch (what) {
            case 0:
                return now.front[l];
            case 1:
                return now.openOf(LOT, l);
            case 2:
                return now.feesFor(l);
            case 3:
                return now.taken[l];
            default:
                throw new IllegalArgumentException("what is 0 to 3");
        }
    }

    public int reader(int c, int what) throws IndexOutOfBoundsException, IllegalArgumentException {
        if (!isReader(c)) {
            throw new IndexOutOfBoundsException("no such reader");
        }
        switch (what) {
            case 0:
                return now.purse[c];
            case 1:
                return now.openOf(READER, c);
            case 2:
                return now.deliveredTo[c];
            case 3:
                return now.lapsedOf[c];
            default:
                throw new IllegalArgumentException("what is 0 to 3");
        }
    }

    public int delivered(int k, int what) throws IllegalArgumentException {
        if (k < 0 || k >= LATELY) {
            throw new IllegalArgumentException("k is 0 to 9");
        }
        if (!isOrderNumber(what)) {
            throw new IllegalArgumentException("what is 0 to 4");
        }
        return now.lately.get(now.lately.size() - 1 - k, deliveredNumber(what));
    }

    /** Of a delivered order the document tells the waiting before the fee, of an open one behind it. */
    private static int deliveredNumber(int what) {
        switch (what) {
            case 3:
                return WAITED;
            case 4:
                return FEE;
            default:
                return what;
        }
    }

    public int setting(int what) throws IllegalArgumentException {
        if (!isSetting(what)) {
            throw new IllegalArgumentException("what is 0 to 4");
        }
        return now.settings[what];
    }

    // ---- actions

    public int ask(int c, int l, int item, int fee)
            throws IndexOutOfBoundsException, IllegalArgumentException, IllegalStateException {
        if (!isReader(c) || !isLot(l)) {
            throw new IndexOutOfBoundsException("no such reader or lot");
        }
        if (!isItem(item) || !isFee(fee)) {
            throw new IllegalArgumentException("an item is 0 to 7, a fee 0 to 9");
        }
        if (!now.takesOrder(c, l, fee)) {
            throw new IllegalStateException("too many open orders, or too little in the purse");
        }
        history.remember(now);
        return now.place(c, l, item, fee);
    }

    public int cancel(int i) throws IndexOutOfBoundsException {
        if (!now.open.has(i)) {
            throw new IndexOutOfBoundsException("no such open order");
        }
        history.remember(now);
        return now.drop(i);
    }

    public int raise(int i, int by)
            throws IndexOutOfBoundsException, IllegalArgumentException, IllegalStateException {
        if (!now.open.has(i)) {
            throw new IndexOutOfBoundsException("no such open order");
        }
        if (!isRaise(by)) {
            throw new IllegalArgumentException("by is 1 to 9");
        }
        if (!now.takesRaise(i, by)) {
            throw new IllegalStateException("the fee would be above 9, or too little is in the purse");
        }
        history.remember(now);
        return now.lift(i, by);
    }

    public int nights(int n) throws IllegalArgumentException {
        if (!isNights(n)) {
            throw new IllegalArgumentException("n is 1 to 30");
        }
        history.remember(now);
        int before = now.number(DELIVERED);
        now.passNights(n);
        return now.number(DELIVERED) - before;
    }

    public int give(int c, int v) throws IndexOutOfBoundsException, IllegalArgumentException {
        if (!isReader(c)) {
            throw new IndexOutOfBoundsException("no such reader");
        }
        if (v < 1 || v > MOST_GIVEN) {
            throw new IllegalArgumentException("v is 1 to 100");
        }
        history.remember(now);
        now.purse[c] += v;
        return now.purse[c];
    }

    public int set(int what, int v) throws IllegalArgumentException {
        if (!isSetting(what) || !isSettingValue(what, v)) {
            throw new IllegalArgumentException("no such setting, or not a value of it");
        }
        history.remember(now);
        int before = now.settings[what];
        now.change(what, v);
        return before;
    }

    public int undo() throws IllegalStateException {
        if (history.isEmpty()) {
            throw new IllegalStateException("no state is remembered");
        }
        return history.takeBack(now);
    }

    // ---- what would be

    public int arrives(int i) throws IndexOutOfBoundsException {
        if (!now.open.has(i)) {
            throw new IndexOutOfBoundsException("no such open order");
        }
        int lot = now.open.get(i, LOT);
        int nightsLeft = Math.max(1, now.settings[PATIENCE] - now.open.get(i, WAITED));
        trial.copyFrom(now);
        for (int night = 1; night <= nightsLeft; night++) {
            trial.passNights(1);
            // All open orders of a lot are delivered when a train takes it.
            if (trial.takenMoreThan(now, lot)) {
                return night;
            }
        }
        return NONE;
    }

    public int next(int k) throws IllegalArgumentException {
        if (k < 0) {
            throw new IllegalArgumentException("k is not negative");
        }
        trial.copyFrom(now);
        for (int place = 0; place < trial.settings[TRAIN_ROOM]; place++) {
            int lot = trial.wantedLot();
            if (!isLot(lot) || place == k) {
                return lot;
            }
            trial.bring(lot);
        }
        return NONE;
    }

    public int feeFor(int l) throws IndexOutOfBoundsException {
        if (!isLot(l)) {
            throw new IndexOutOfBoundsException("no such lot");
        }
        if (now.isInFront(l)) {
            return 0;
        }
        for (int fee = 0; fee <= MOST_FEE; fee++) {
            trial.copyFrom(now);
            // Not by place(): neither the purse nor the number of open orders matters here.
            trial.open.add(0, l, 0, fee, 0);
            trial.passNights(1);
            if (trial.takenMoreThan(now, l)) {
                return fee;
            }
        }
        return NONE;
    }

    public int would(int n, int what) throws IllegalArgumentException {
        if (n < 0 || n > MOST_NIGHTS_AHEAD) {
            throw new IllegalArgumentException("n is 0 to 60");
        }
        int number = wouldNumber(what);
        if (number == NONE) {
            throw new IllegalArgumentException("what is 0 to 3");
        }
        trial.copyFrom(now);
        trial.passNights(n);
        return more(number);
    }

    /** The number of about() that would() asks for; NONE if there is none. */
    private static int wouldNumber(int what) {
        switch (what) {
            case 0:
                return DELIVERED;
            case 1:
                return LAPSED;
            case 2:
                return KEPT;
            case 3:
                return TAKEN;
            default:
                return NONE;
        }
    }

    /** How much greater a number of about() is in the trial than now. */
    private int more(int number) {
        return trial.number(number) - now.number(number);
    }

    public int bestRule() {
        int best = 0;
        int mostDelivered = NONE;
        int mostKept = NONE;
        for (int rule = 0; rule < RULES; rule++) {
            tryToTheEnd(RULE, rule);
            int delivered = more(DELIVERED);
            int kept = more(KEPT);
            if (delivered > mostDelivered || delivered == mostDelivered && kept > mostKept) {
                best = rule;
                mostDelivered = delivered;
                mostKept = kept;
            }
        }
        return best;
    }

    public int leastRoom() {
        // Room for every lot is more than set() allows.
        for (int room = 0; room <= LOTS; room++) {
            tryToTheEnd(TRAIN_ROOM, room);
            if (more(LAPSED) == 0) {
                return room;
            }
        }
        return NONE;
    }

    /** Lets nights go by in the trial, with another setting, until all orders that are open now have ended. */
    private void tryToTheEnd(int setting, int v) {
        trial.copyFrom(now);
        trial.change(setting, v);
        trial.passNights(NIGHTS_TO_THE_END);
    }

    // ---- scripts, simulations

    public int runScript(int n, long script) throws IllegalArgumentException {
        if (n < 1 || n > MOST_GROUPS) {
            throw new IllegalArgumentException("n is 1 to 3");
        }
        if (script < 0 || withoutGroups(script, n) != 0) {
            throw new IllegalArgumentException("a script has at most 5 * n digits");
        }
        trial.copyFrom(now);
        for (int i = 0; i < n; i++) {
            if (!runGroup((int) (withoutGroups(script, n - 1 - i) % GROUP))) {
                return i;
            }
        }
        return NONE;
    }

    /** The script without its lowest groups, so many. */
    private static long withoutGroups(long script, int groups) {
        long rest = script;
        for (int i = 0; i < groups; i++) {
            rest /= GROUP;
        }
        return rest;
    }

    /** Does one command on the trial; answers whether it succeeds. */
    private boolean runGroup(int group) {
        int d2 = group / 1000 % 10;
        int d3 = group / 100 % 10;
        int d4 = group / 10 % 10;
        int d5 = group % 10;
        switch (group / 10000) {
            case 1:
                return trial.placeIfAllowed(d2, 10 * d3 + d4, 0, d5);
            case 2:
                return d4 == 0 && d5 == 0 && trial.dropIfAllowed(10 * d2 + d3);
            case 3:
                return d4 == 0 && trial.liftIfAllowed(10 * d2 + d3, d5);
            case 4:
                if (d2 != 0 || d3 != 0 || !isNights(10 * d4 + d5)) {
                    return false;
                }
                trial.passNights(10 * d4 + d5);
                return true;
            case 5:
                return d3 == 0 && d5 == 0 && trial.changeIfAllowed(d2, d4);
            case 6:
                return d4 == 0 && d5 <= 1 && isLot(10 * d2 + d3) && trial.isInFront(10 * d2 + d3) == (d5 == 1);
            case 7:
                return d3 == 0 && isReader(d2) && trial.deliveredTo[d2] >= 10 * d4 + d5;
            case 8:
                return d2 == 0 && d3 == 0 && trial.number(LAPSED) <= 10 * d4 + d5;
            case 9:
                return d2 == 0 && trial.number(KEPT) >= group % 1000;
            default:
                return false;
        }
    }

    public int simulate(long seed, int m) throws IllegalArgumentException {
        if (m < 1 || m > MOST_DAYS) {
            throw new IllegalArgumentException("m is 1 to 99");
        }
        trial.copyFrom(now);
        long x = seed;
        for (int day = 0; day < m; day++) {
            x = x * 6364136223846793005L + 1442695040888963407L;
            simulateDay((int) (x >>> 33));
        }
        return 10000 * more(DELIVERED) + 100 * more(LAPSED) + trial.number(OPEN);
    }

    private void simulateDay(int r) {
        trial.placeIfAllowed(r % 4, r / 4 % 16, r / 64 % 8, r / 512 % 10);
        if (r / 8192 % 4 == 0) {
            trial.dropIfAllowed(r / 32768 % 20);
        }
        if (r / 1048576 % 2 == 0) {
            trial.passNights(1);
        }
    }

    // ---- save slots

    public int save(int slot) throws IndexOutOfBoundsException {
        if (!isSlot(slot)) {
            throw new IndexOutOfBoundsException("no such save slot");
        }
        slots[slot].copyFrom(now);
        saved[slot] = true;
        return now.number(NIGHTS);
    }

    public int restore(int slot) throws IndexOutOfBoundsException, IllegalStateException {
        if (!isSlot(slot)) {
            throw new IndexOutOfBoundsException("no such save slot");
        }
        if (!saved[slot]) {
            throw new IllegalStateException("nothing has been saved in the slot");
        }
        now.copyFrom(slots[slot]);
        history.forget();
        return now.number(NIGHTS);
    }

    // ---- ranges

    private static boolean isReader(int c) {
        return c >= 0 && c < READERS;
    }

    private static boolean isLot(int l) {
        return l >= 0 && l < LOTS;
    }

    private static boolean isItem(int item) {
        return item >= 0 && item < ITEMS;
    }

    private static boolean isFee(int fee) {
        return fee >= 0 && fee <= MOST_FEE;
    }

    private static boolean isRaise(int by) {
        return by >= 1 && by <= MOST_FEE;
    }

    private static boolean isNights(int n) {
        return n >= 1 && n <= MOST_NIGHTS;
    }

    private static boolean isOrderNumber(int what) {
        return what >= 0 && what < ORDER_NUMBERS;
    }

    private static boolean isSetting(int what) {
        return what >= 0 && what < SETTINGS;
    }

    private static boolean isSettingValue(int what, int v) {
        return isSetting(what) && v >= SETTING_LEAST[what] && v <= SETTING_MOST[what];
    }

    private static boolean isSlot(int slot) {
        return slot >= 0 && slot < SLOTS;
    }

    private static void copyAll(int[] from, int[] to) {
        System.arraycopy(from, 0, to, 0, Math.min(from.length, to.length));
    }

    /** The state: what actions change, undo takes back and save slots keep. */
    private static final class Store {
        final int[] settings = new int[SETTINGS];
        final int[] purse = new int[READERS];
        final int[] deliveredTo = new int[READERS];
        final int[] lapsedOf = new int[READERS];
        /** The nights for which each lot has been in front, NONE if it is in the deep store. */
        final int[] front = new int[LOTS];
        final int[] taken = new int[LOTS];
        final Orders open = new Orders();
        /** The orders delivered lately, the last one last. */
        final Orders lately = new Orders();
        /** The numbers of about(), but for those that number() works out. */
        private final int[] counts = new int[NUMBERS];

        Store() {
            reset();
        }

        void reset() {
            copyAll(SETTING_FIRST, settings);
            Arrays.fill(purse, FIRST_PURSE);
            Arrays.fill(deliveredTo, 0);
            Arrays.fill(lapsedOf, 0);
            Arrays.fill(front, NONE);
            Arrays.fill(taken, 0);
            Arrays.fill(counts, 0);
            open.clear();
            lately.clear();
        }

        void copyFrom(Store other) {
            copyAll(other.settings, settings);
            copyAll(other.purse, purse);
            copyAll(other.deliveredTo, deliveredTo);
            copyAll(other.lapsedOf, lapsedOf);
            copyAll(other.front, front);
            copyAll(other.taken, taken);
            copyAll(other.counts, counts);
            open.copyFrom(other.open);
            lately.copyFrom(other.lately);
        }

        int number(int what) {
            switch (what) {
                case OPEN:
                    return open.size();
                case HELD:
                    return feesHeld();
                case IN_FRONT:
                    return lotsInFront();
                default:
                    return what >= 0 && what < NUMBERS ? counts[what] : NONE;
            }
        }

        private int feesHeld() {
            int fees = 0;
            for (int i = 0; i < open.size(); i++) {
                fees += open.get(i, FEE);
            }
            return fees;
        }

        private int lotsInFront() {
            int lots = 0;
            for (int lot = 0; lot < LOTS; lot++) {
                if (front[lot] != NONE) {
                    lots++;
                }
            }
            return lots;
        }

        /** How many open orders have that number of that kind: that reader, or that lot. */
        int openOf(int kind, int number) {
            int orders = 0;
            for (int i = 0; i < open.size(); i++) {
                if (open.get(i, kind) == number) {
                    orders++;
                }
            }
            return orders;
        }

        int feesFor(int lot) {
            int fees = 0;
            for (int i = 0; i < open.size(); i++) {
                if (open.get(i, LOT) == lot) {
                    fees += open.get(i, FEE);
                }
            }
            return fees;
        }

        boolean isInFront(int lot) {
            return isLot(lot) && front[lot] != NONE;
        }

        boolean takenMoreThan(Store other, int lot) {
            return isLot(lot) && taken[lot] > other.taken[lot];
        }

        // ---- orders

        boolean takesOrder(int reader, int lot, int fee) {
            return isInFront(lot) || open.size() < MOST_OPEN && isReader(reader) && purse[reader] >= fee;
        }

        /** Answers the number of the open order; NONE if it is delivered at once. */
        int place(int reader, int lot, int item, int fee) {
            if (isInFront(lot)) {
                front[lot] = 0;
                noteDelivered(reader, lot, item, 0, 0);
                return NONE;
            }
            if (isReader(reader)) {
                purse[reader] -= fee;
            }
            return open.add(reader, lot, item, fee, 0);
        }

        boolean placeIfAllowed(int reader, int lot, int item, int fee) {
            boolean allowed = isReader(reader) && isLot(lot) && isItem(item) && isFee(fee)
                    && takesOrder(reader, lot, fee);
            if (allowed) {
                place(reader, lot, item, fee);
            }
            return allowed;
        }

        /** Answers the fee that is paid back. */
        int drop(int i) {
            int fee = payBack(i);
            counts[CANCELLED]++;
            open.end(i);
            open.closeGaps();
            return fee;
        }

        boolean dropIfAllowed(int i) {
            boolean allowed = open.has(i);
            if (allowed) {
                drop(i);
            }
            return allowed;
        }

        boolean takesRaise(int i, int by) {
            int reader = open.get(i, READER);
            return isFee(open.get(i, FEE) + by) && isReader(reader) && purse[reader] >= by;
        }

        /** Answers the fee then. */
        int lift(int i, int by) {
            int reader = open.get(i, READER);
            if (isReader(reader)) {
                purse[reader] -= by;
            }
            open.put(i, FEE, open.get(i, FEE) + by);
            return open.get(i, FEE);
        }

        boolean liftIfAllowed(int i, int by) {
            boolean allowed = open.has(i) && isRaise(by) && takesRaise(i, by);
            if (allowed) {
                lift(i, by);
            }
            return allowed;
        }

        private int payBack(int i) {
            int reader = open.get(i, READER);
            int fee = open.get(i, FEE);
            if (isReader(reader)) {
                purse[reader] += fee;
            }
            counts[PAID_BACK] += fee;
            return fee;
        }

        private void noteDelivered(int reader, int lot, int item, int fee, int waited) {
            counts[DELIVERED]++;
            counts[KEPT] += fee;
            if (isReader(reader)) {
                deliveredTo[reader]++;
            }
            if (lately.size() >= LATELY) {
                lately.end(0);
                lately.closeGaps();
            }
            lately.add(reader, lot, item, fee, waited);
        }

        // ---- settings

        void change(int what, int v) {
            if (isSetting(what)) {
                settings[what] = v;
            }
        }

        boolean changeIfAllowed(int what, int v) {
            boolean allowed = isSettingValue(what, v);
            if (allowed) {
                change(what, v);
            }
            return allowed;
        }

        // ---- nights

        void passNights(int n) {
            for (int night = 0; night < n; night++) {
                runTrain();
                letOrdersWait();
                letLotsStay();
                counts[NIGHTS]++;
            }
        }

        private void runTrain() {
            int before = counts[TAKEN];
            for (int place = 0; place < settings[TRAIN_ROOM]; place++) {
                int lot = wantedLot();
                if (!isLot(lot)) {
                    break;
                }
                bring(lot);
            }
            if (counts[TAKEN] > before) {
                counts[TRAIN_NIGHTS]++;
            }
        }

        /** The lot that the train takes next if it has room; NONE if no lot has open orders. */
        int wantedLot() {
            if (settings[RULE] == RULE_FIRST_ORDER) {
                return open.get(0, LOT);
            }
            int wanted = NONE;
            int most = NONE;
            for (int lot = 0; lot < LOTS; lot++) {
                int orders = openOf(LOT, lot);
                int weight = settings[RULE] == RULE_FEES ? feesFor(lot) : orders;
                if (orders > 0 && weight > most) {
                    wanted = lot;
                    most = weight;
                }
            }
            return wanted;
        }

        /** The train takes the lot: it is in front then, and its open orders are delivered. */
        void bring(int lot) {
            for (int out = 0; out < LOTS && lotsInFront() >= settings[FRONT_ROOM]; out++) {
                sendBackLongest();
            }
            if (isLot(lot)) {
                front[lot] = 0;
                taken[lot]++;
            }
            counts[TAKEN]++;
            for (int i = 0; i < open.size(); i++) {
                if (open.get(i, LOT) == lot) {
                    noteDelivered(open.get(i, READER), lot, open.get(i, ITEM), open.get(i, FEE), open.get(i, WAITED));
                    open.end(i);
                }
            }
            open.closeGaps();
        }

        /** Sends the lot back that has been in front for the most nights, of several the lowest one. */
        private void sendBackLongest() {
            int longest = 0;
            for (int lot = 1; lot < LOTS; lot++) {
                if (front[lot] > front[longest]) {
                    longest = lot;
                }
            }
            front[longest] = NONE;
        }

        private void letOrdersWait() {
            for (int i = 0; i < open.size(); i++) {
                int waited = open.get(i, WAITED) + 1;
                open.put(i, WAITED, waited);
                if (waited >= settings[PATIENCE]) {
                    lapse(i);
                }
            }
            open.closeGaps();
        }

        private void lapse(int i) {
            int reader = open.get(i, READER);
            payBack(i);
            counts[LAPSED]++;
            if (isReader(reader)) {
                lapsedOf[reader]++;
            }
            open.end(i);
        }

        private void letLotsStay() {
            for (int lot = 0; lot < LOTS; lot++) {
                if (front[lot] != NONE) {
                    front[lot]++;
                    if (front[lot] > settings[STAY]) {
                        front[lot] = NONE;
                    }
                }
            }
        }
    }

    /** Orders, one behind the other, in rows of ORDER_NUMBERS cells that are used again. */
    private static final class Orders {
        // feeFor() tries one order more than can be open.
        private static final int PLACES = MOST_OPEN + 1;

        private final int[] cells = new int[PLACES * ORDER_NUMBERS];
        private int size;

        int size() {
            return size;
        }

        boolean has(int i) {
            return i >= 0 && i < size;
        }

        void clear() {
            size = 0;
        }

        void copyFrom(Orders other) {
            copyAll(other.cells, cells);
            size = other.size;
        }

        /** NONE if there is no such order. */
        int get(int i, int what) {
            boolean known = i >= 0 && i < size && what >= 0 && what < ORDER_NUMBERS;
            return known ? cells[i * ORDER_NUMBERS + what] : NONE;
        }

        void put(int i, int what, int v) {
            if (i >= 0 && i < size && what >= 0 && what < ORDER_NUMBERS) {
                cells[i * ORDER_NUMBERS + what] = v;
            }
        }

        /** Answers the new order's number; NONE if there is no place for it. */
        int add(int reader, int lot, int item, int fee, int waited) {
            if (size >= PLACES) {
                return NONE;
            }
            int start = size * ORDER_NUMBERS;
            cells[start + READER] = reader;
            cells[start + LOT] = lot;
            cells[start + ITEM] = item;
            cells[start + FEE] = fee;
            cells[start + WAITED] = waited;
            size++;
            return size - 1;
        }

        /** Marks an order as ended: it keeps its place until closeGaps(), so that a loop can go on. */
        void end(int i) {
            put(i, READER, NONE);
        }

        void closeGaps() {
            int kept = 0;
            for (int i = 0; i < size; i++) {
                if (get(i, READER) != NONE) {
                    System.arraycopy(cells, i * ORDER_NUMBERS, cells, kept * ORDER_NUMBERS, ORDER_NUMBERS);
                    kept++;
                }
            }
            size = kept;
        }
    }

    /** The states before the last actions, in a ring. */
    private static final class History {
        private final Store[] states = new Store[REMEMBERED];
        private int next;
        private int count;

        History() {
            for (int i = 0; i < REMEMBERED; i++) {
                states[i] = new Store();
            }
        }

        boolean isEmpty() {
            return count == 0;
        }

        void forget() {
            count = 0;
        }

        void remember(Store store) {
            states[next].copyFrom(store);
            next = (next + 1) % REMEMBERED;
            count = Math.min(count + 1, REMEMBERED);
        }

        /** Puts the last state back; answers how many are remembered still. */
        int takeBack(Store store) {
            next = (next + REMEMBERED - 1) % REMEMBERED;
            count = Math.max(count - 1, 0);
            store.copyFrom(states[next]);
            return count;
        }
    }

    /** The text buffer and its grammar. */
    private static final class Text {
        /** The length of the letter D and the settings. */
        static final int HEAD = 1 + SETTINGS;
        private static final int MOST_SIGNS = 120;

        private final char[] signs = new char[MOST_SIGNS];
        private int length;

        int length() {
            return length;
        }

        boolean isFull() {
            return length >= MOST_SIGNS;
        }

        /** Answers the new length. */
        int add(char sign) {
            if (!isFull()) {
                signs[length] = sign;
                length++;
            }
            return length;
        }

        /** Answers the previous length. */
        int empty() {
            int before = length;
            length = 0;
            return before;
        }

        /** The character code there; NONE behind the text. */
        int signAt(int at) {
            return at >= 0 && at < length ? signs[at] : NONE;
        }

        int digitAt(int at) {
            return signAt(at) - '0';
        }

        /** The number of two digits that begins there. */
        int pairAt(int at) {
            return 10 * digitAt(at) + digitAt(at + 1);
        }

        /** The digits behind the letter there; 0 if no command begins with it. */
        int digitsOfCommand(int at) {
            switch (signAt(at)) {
                case 'o':
                    return 5;
                case 'c':
                    return 2;
                case 'n':
                    return 1;
                default:
                    return 0;
            }
        }

        /** The error position; NONE if the text is a store. */
        int firstWrong() {
            int wrong = wrongInHead();
            for (int at = HEAD; at < length && wrong == NONE; at += 1 + digitsOfCommand(at)) {
                wrong = wrongInCommand(at);
            }
            return wrong;
        }

        private int wrongInHead() {
            // Behind the text stands no sign that is allowed, so a text that ends too soon is wrong at its length.
            if (signAt(0) != 'D') {
                return 0;
            }
            for (int what = 0; what < SETTINGS; what++) {
                if (!isSettingValue(what, digitAt(1 + what))) {
                    return 1 + what;
                }
            }
            return NONE;
        }

        private int wrongInCommand(int start) {
            int digits = digitsOfCommand(start);
            if (digits == 0) {
                return start;
            }
            for (int i = 1; i <= digits; i++) {
                int digit = digitAt(start + i);
                if (digit < lowestDigit(start) || digit > highestDigit(start, i)) {
                    return start + i;
                }
            }
            return NONE;
        }

        private int lowestDigit(int start) {
            return signAt(start) == 'n' ? 1 : 0;
        }

        /** The highest digit allowed at the i-th place behind the letter. */
        private int highestDigit(int start, int i) {
            if (signAt(start) == 'c') {
                return highestOfPair(start + 1, i, MOST_OPEN - 1);
            }
            if (signAt(start) == 'n') {
                return 9;
            }
            switch (i) {
                case 1:
                    return READERS - 1;
                case 2:
                case 3:
                    return highestOfPair(start + 2, i - 1, LOTS - 1);
                case 4:
                    return ITEMS - 1;
                default:
                    return MOST_FEE;
            }
        }

        /** The highest first or second digit of a number of two digits that is at most so much. */
        private int highestOfPair(int at, int place, int most) {
            boolean free = place == 2 && digitAt(at) < most / 10;
            if (free) {
                return 9;
            }
            return place == 1 ? most / 10 : most % 10;
        }
    }
}
