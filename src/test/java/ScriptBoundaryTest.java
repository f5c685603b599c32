import java.math.BigInteger;

/** The boundaries of scripts and simulations. */
public final class ScriptBoundaryTest {
    private static final Bench bench = new Bench("ScriptBoundaryTest");
    private static final BigInteger FACTOR = BigInteger.valueOf(6364136223846793005L);
    private static final BigInteger SUMMAND = BigInteger.valueOf(1442695040888963407L);
    private static final BigInteger TWO_TO_64 = BigInteger.ONE.shiftLeft(64);

    public static void main(String[] args) {
        numberOfCommands();
        digitsOfAScript();
        highestGroupFirst();
        firstThatFails();
        askInAScript();
        cancelInAScript();
        raiseInAScript();
        nightsInAScript();
        setInAScript();
        lotInFront();
        deliveredToAReader();
        lapsedAtMost();
        keptAtLeast();
        otherGroups();
        onACopy();
        numberOfDays();
        longOverflow();
        dayOfASimulation();
        leftOutInASimulation();
        answerOfASimulation();
        simulationOnACopy();
        bench.end();
    }

    private static void script(Bench.Recipe recipe, int n, long script, int want) {
        bench.answers("runScript(" + n + ", " + script + ")", want, recipe, x -> x.runScript(n, script));
    }

    /** One command succeeds or fails. */
    private static void succeeds(Bench.Recipe recipe, long group) {
        script(recipe, 1, group, Bench.NONE);
    }

    private static void fails(Bench.Recipe recipe, long group) {
        script(recipe, 1, group, 0);
    }

    // ---- the arguments of a script

    private static void numberOfCommands() {
        bench.sentence("`n`: number of commands, 1 to 3",
                "A script has 1 to 3 commands;");
        bench.range("runScript(n, 0)", Bench.ARGUMENT, 1, 3, Bench::busy, (x, n) -> x.runScript(n, 0L));
        bench.range("runScript(n, 40001)", Bench.ARGUMENT, 1, 3, Bench::busy, (x, n) -> x.runScript(n, 40001L));
        bench.refuses("runScript(0, -1), both wrong", Bench.ARGUMENT, Bench::busy, x -> x.runScript(0, -1L));
    }

    private static void digitsOfAScript() {
        bench.sentence("Throws `IllegalArgumentException` if n is out of range, or if script is negative or has "
                + "more than 5 * n digits",
                "`script`: the commands, a number of at most 5 * n digits (0 or more)");
        long[] tooMany = {100000L, 10000000000L, 1000000000000000L};
        for (int n = 1; n <= 3; n++) {
            int commands = n;
            long most = tooMany[n - 1];
            script(Bench::busy, n, 0L, 0);
            script(Bench::busy, n, most - 1, 0);
            long[] refused = {-1L, most, most + 1, Long.MAX_VALUE, Long.MIN_VALUE, -most, 1L << 32 << 31};
            for (long s : refused) {
                bench.refuses("runScript(" + n + ", " + s + ")", Bench.ARGUMENT, Bench::busy,
                        x -> x.runScript(commands, s));
            }
        }
        script(Bench::busy, 1, 99999L, 0);
        script(Bench::busy, 2, 40001_99999L, 1);
        script(Bench::busy, 3, 40001_40001_99999L, 2);
        // The same number that is too long for one command is right for two.
        bench.refuses("runScript(1, 4000140001)", Bench.ARGUMENT, Bench::busy, x -> x.runScript(1, 40001_40001L));
        script(Bench::busy, 2, 40001_40001L, Bench.NONE);
    }

    private static void highestGroupFirst() {
        bench.sentence("each is a group of five decimal digits d1 to d5, and the first command is the highest "
                + "group of the number (with zeros before it, if it has fewer digits).");
        // Three orders are open: what is cancelled first is not there for the next command.
        script(Bench::busy, 2, 20200_20200L, 1);
        script(Bench::busy, 2, 20200_20100L, Bench.NONE);
        script(Bench::busy, 2, 20100_20200L, 1);
        script(Bench::busy, 3, 20200_20100_20000L, Bench.NONE);
        script(Bench::busy, 3, 20000_20100_20200L, 2);
        script(Bench::busy, 3, 20000_20200_20100L, 1);
        // With zeros before it, the first group is 00000, or 0 and four digits.
        script(Bench::busy, 2, 20200L, 0);
        script(Bench::busy, 3, 20200_20100L, 0);
        script(Bench::busy, 3, 20200L, 0);
        script(Bench::busy, 1, 2020L, 0);
        script(Bench::busy, 1, 1000L, 0);
    }

    private static void firstThatFails() {
        bench.sentence("Returns the index, from 0, of the first command that fails; NONE if all succeed.");
        script(Bench::fresh, 3, 40001_40001_40001L, Bench.NONE);
        script(Bench::fresh, 3, 40001_40001_40000L, 2);
        script(Bench::fresh, 3, 40001_40000_40001L, 1);
        script(Bench::fresh, 3, 40000_40001_40001L, 0);
        script(Bench::fresh, 3, 40001_40000_40000L, 1);
        script(Bench::fresh, 3, 40000_40000_40000L, 0);
        script(Bench::fresh, 2, 40001_40000L, 1);
        script(Bench::fresh, 1, 40001L, Bench.NONE);
    }

    // ---- the commands

    private static void askInAScript() {
        bench.sentence("1 c l l f: ask(c, ll, 0, f).");
        succeeds(Bench::fresh, 10000L);
        succeeds(Bench::fresh, 13159L);
        fails(Bench::fresh, 14000L);
        fails(Bench::fresh, 19000L);
        fails(Bench::fresh, 10160L);
        fails(Bench::fresh, 10990L);
        succeeds(Bench::poor, 10054L);
        succeeds(Bench::poor, 10055L);
        fails(Bench::poor, 10056L);
        succeeds(Bench::poor, 11059L);
        fails(Bench::full, 10000L);
        script(Bench::full, 2, 20000_10000L, Bench.NONE);
        script(Bench::full, 3, 20000_10000_10000L, 2);
        // Lot 5 is in front: delivered at once, whatever is open or in the purse.
        script(Bench::busy, 2, 12059_72001L, Bench.NONE);
        script(Bench::busy, 2, 12059_72002L, 1);
        Bench.Recipe crowded = () -> {
            NightTrains x = Bench.loaded("D13990o00509n1");
            for (int i = 0; i < 20; i++) {
                x.ask(1, 0, 0, 0);
            }
            return x;
        };
        succeeds(crowded, 10059L);
        fails(crowded, 10060L);
    }

    private static void cancelInAScript() {
        bench.sentence("2 i i 0 0: cancel(ii).");
        succeeds(Bench::busy, 20000L);
        succeeds(Bench::busy, 20200L);
        fails(Bench::busy, 20300L);
        fails(Bench::fresh, 20000L);
        succeeds(Bench::full, 21900L);
        fails(Bench::full, 22000L);
        fails(Bench::full, 29900L);
        fails(Bench::busy, 20010L);
        fails(Bench::busy, 20001L);
        fails(Bench::busy, 20090L);
        fails(Bench::busy, 20009L);
        fails(Bench::busy, 20011L);
    }

    private static void raiseInAScript() {
        bench.sentence("3 i i 0 b: raise(ii, b).");
        succeeds(Bench::busy, 30001L);
        succeeds(Bench::busy, 30006L);
        fails(Bench::busy, 30007L);
        fails(Bench::busy, 30000L);
        fails(Bench::busy, 30101L);
        succeeds(Bench::busy, 30209L);
        fails(Bench::busy, 30301L);
        fails(Bench::fresh, 30001L);
        succeeds(Bench::full, 31909L);
        fails(Bench::full, 32001L);
        fails(Bench::full, 39901L);
        fails(Bench::busy, 30011L);
        fails(Bench::busy, 30091L);
        Bench.Recipe fiveLeft = () -> {
            NightTrains x = Bench.poor();
            x.ask(0, 5, 0, 0);
            return x;
        };
        succeeds(fiveLeft, 30505L);
        fails(fiveLeft, 30506L);
        script(fiveLeft, 2, 30504_30501L, Bench.NONE);
        script(fiveLeft, 2, 30504_30502L, 1);
    }

    private static void nightsInAScript() {
        bench.sentence("4 0 0 n n: nights(nn).",
                "ll, ii, nn and xyz are decimal numbers.");
        fails(Bench::busy, 40000L);
        succeeds(Bench::busy, 40001L);
        succeeds(Bench::busy, 40009L);
        succeeds(Bench::busy, 40010L);
        succeeds(Bench::busy, 40029L);
        succeeds(Bench::busy, 40030L);
        fails(Bench::busy, 40031L);
        fails(Bench::busy, 40099L);
        fails(Bench::busy, 41001L);
        fails(Bench::busy, 40101L);
        fails(Bench::busy, 49901L);
        // Five nights are the patience, four are not.
        Bench.Recipe idle = () -> Bench.loaded("D03250o00000");
        script(idle, 2, 40004_80000L, Bench.NONE);
        script(idle, 2, 40005_80000L, 1);
        // The stay is 9: lot 5 comes in the first night, lot 6 in the second.
        Bench.Recipe two = () -> Bench.loaded("D13991o00500o00600");
        script(two, 3, 40009_60501_60601L, Bench.NONE);
        script(two, 3, 40010_60500_60601L, Bench.NONE);
        script(two, 3, 40011_60500_60600L, Bench.NONE);
    }

    private static void setInAScript() {
        bench.sentence("5 w 0 v 0: set(w, v).");
        int[] least = {0, 1, 1, 1, 0};
        int[] most = {4, 6, 9, 9, 2};
        for (int what = 0; what <= 4; what++) {
            for (int v = 0; v <= 9; v++) {
                boolean allowed = v >= least[what] && v <= most[what];
                script(Bench::busy, 1, 50000L + 1000 * what + 10 * v, allowed ? Bench.NONE : 0);
            }
        }
        for (int what = 5; what <= 9; what++) {
            fails(Bench::busy, 50010L + 1000 * what);
        }
        fails(Bench::busy, 50110L);
        fails(Bench::busy, 50910L);
        fails(Bench::busy, 50011L);
        fails(Bench::busy, 50019L);
        Bench.Recipe one = () -> Bench.loaded("D13250o00000");
        script(one, 3, 50000_40001_90000L, Bench.NONE);
        script(one, 3, 50000_40001_60001L, 2);
        script(one, 3, 50010_40001_60001L, Bench.NONE);
    }

    private static void lotInFront() {
        bench.sentence("6 l l 0 s: succeeds if the lot ll is in front (s is 1), or not (s is 0).");
        Bench.Recipe inFront = () -> Bench.loaded("D43250o00000o01500n1");
        succeeds(inFront, 60001L);
        fails(inFront, 60000L);
        succeeds(inFront, 61501L);
        fails(inFront, 61500L);
        succeeds(inFront, 60100L);
        fails(inFront, 60101L);
        succeeds(inFront, 61400L);
        fails(inFront, 61401L);
        fails(inFront, 61600L);
        fails(inFront, 61601L);
        fails(inFront, 69900L);
        fails(inFront, 69901L);
        for (int s = 2; s <= 9; s++) {
            fails(inFront, 60000L + s);
            fails(inFront, 60100L + s);
        }
        fails(inFront, 60011L);
        fails(inFront, 60110L);
        fails(inFront, 60190L);
        // The stay is 2: after one night more in front still, after two no more.
        script(inFront, 2, 40001_60001L, Bench.NONE);
        script(inFront, 2, 40002_60000L, Bench.NONE);
    }

    private static NightTrains deliveredToReader3(int times) {
        NightTrains x = Bench.loaded("D13990o30500n1");
        for (int i = 1; i < times; i++) {
            x.ask(3, 5, 0, 0);
        }
        return x;
    }

    private static void deliveredToAReader() {
        bench.sentence("7 c 0 n n: succeeds if at least nn orders of the reader c were delivered so far.");
        succeeds(Bench::fresh, 70000L);
        succeeds(Bench::fresh, 73000L);
        fails(Bench::fresh, 74000L);
        fails(Bench::fresh, 79000L);
        fails(Bench::fresh, 70001L);
        int[] times = {1, 2, 9, 10, 11, 98, 99};
        for (int n : times) {
            Bench.Recipe recipe = () -> deliveredToReader3(n);
            succeeds(recipe, 73000L + n - 1);
            succeeds(recipe, 73000L + n);
            if (n < 99) {
                fails(recipe, 73000L + n + 1);
            }
            fails(recipe, 72001L);
            fails(recipe, 73100L);
            fails(recipe, 73900L);
        }
        succeeds(() -> deliveredToReader3(100), 73099L);
        succeeds(() -> deliveredToReader3(101), 73001L);
    }

    /** So many orders have lapsed, 20 at most in a night. */
    private static NightTrains lapsedSoMany(int n) {
        NightTrains x = Bench.loaded("D03210");
        for (int i = 0; i < n; i++) {
            x.ask(i % 4, 0, 0, 0);
            if (i % 20 == 19 || i == n - 1) {
                x.nights(1);
            }
        }
        return x;
    }

    private static void lapsedAtMost() {
        bench.sentence("8 0 0 n n: succeeds if at most nn orders lapsed so far.");
        int[] counts = {0, 1, 2, 9, 10, 11, 98, 99};
        for (int n : counts) {
            Bench.Recipe recipe = () -> lapsedSoMany(n);
            bench.due("lapsed", recipe.make().about(3), n);
            if (n > 0) {
                fails(recipe, 80000L + n - 1);
            }
            succeeds(recipe, 80000L + n);
            if (n < 99) {
                succeeds(recipe, 80000L + n + 1);
            }
            fails(recipe, 81099L);
            fails(recipe, 80199L);
            fails(recipe, 89999L);
        }
        fails(() -> lapsedSoMany(100), 80099L);
        fails(() -> lapsedSoMany(101), 80001L);
    }

    /** The store has kept so many fees, nine at most for an order, one lot a night. */
    private static NightTrains keptSoMany(int fees) {
        NightTrains x = Bench.loaded("D13190");
        int left = fees;
        for (int order = 0; left > 0; order++) {
            if (order % 5 == 0) {
                x.give(0, 45);
            }
            int fee = Math.min(left, 9);
            x.ask(0, order / 5 % 16, 0, fee);
            left -= fee;
            if (order % 5 == 4 || left == 0) {
                x.nights(1);
            }
        }
        return x;
    }

    private static void keptAtLeast() {
        bench.sentence("9 0 x y z: succeeds if the store kept at least xyz fees so far.");
        int[] counts = {0, 1, 9, 10, 99, 100, 101, 120, 998, 999};
        for (int n : counts) {
            Bench.Recipe recipe = () -> keptSoMany(n);
            bench.due("kept", recipe.make().about(5), n);
            if (n > 0) {
                succeeds(recipe, 90000L + n - 1);
            }
            succeeds(recipe, 90000L + n);
            if (n < 999) {
                fails(recipe, 90000L + n + 1);
            }
            fails(recipe, 91000L);
            fails(recipe, 99000L);
        }
        succeeds(() -> keptSoMany(1000), 90999L);
        succeeds(() -> keptSoMany(1001), 90001L);
    }

    private static void otherGroups() {
        bench.sentence("The commands 1 to 5 fail if the method would throw an exception; commands with readers, "
                + "lots or open orders that do not exist fail, and so does any other group (also one with another "
                + "digit where a 0 is written, or another s).");
        long[] zero = {0L, 1L, 10L, 100L, 1000L, 9999L};
        for (long group : zero) {
            fails(Bench::busy, group);
        }
        // One digit beside those that would do.
        long[] right = {20000L, 30001L, 40001L, 50010L, 60501L, 70001L, 80000L, 90000L};
        for (long group : right) {
            succeeds(Bench::busy, group);
        }
        long[] oneOff = {20010L, 20001L, 30011L, 41001L, 40101L, 50110L, 50011L, 60511L, 60502L, 70101L, 81000L, 80100L,
            91000L};
        for (long group : oneOff) {
            fails(Bench::busy, group);
        }
    }

    private static void onACopy() {
        bench.sentence("Runs a script on a copy of the state.");
        bench.changesNothing("ask, cancel, nights", Bench::busy, x -> x.runScript(3, 11009_20000_40030L));
        bench.changesNothing("raise, set, a command that fails", Bench::busy, x -> x.runScript(3, 30209_50040_40000L));
        bench.changesNothing("ask in front", Bench::busy, x -> x.runScript(1, 10050L));
        NightTrains x = Bench.busy();
        bench.due("a script", x.runScript(3, 20000_20000_20000L), Bench.NONE);
        bench.due("again", x.runScript(3, 20000_20000_20000L), Bench.NONE);
    }

    // ---- simulations

    /** The r of the first day, worked out without overflow. */
    private static int firstR(long seed) {
        return r(next(BigInteger.valueOf(seed)));
    }

    private static BigInteger next(BigInteger x) {
        return x.multiply(FACTOR).add(SUMMAND).mod(TWO_TO_64);
    }

    private static int r(BigInteger x) {
        return x.shiftRight(33).intValueExact();
    }

    /** A seed with which the first day's r is this. */
    private static long seedFor(int r) {
        BigInteger x = BigInteger.valueOf(r).shiftLeft(33);
        return x.subtract(SUMMAND).multiply(FACTOR.modInverse(TWO_TO_64)).mod(TWO_TO_64).longValue();
    }

    /** A seed whose first day asks so, draws so for the cancel and for the night. */
    private static long seedFor(int c, int l, int item, int fee, int draw, int cancelled, int night) {
        for (int high = 0; high < 1 << 22; high++) {
            int r = c + 4 * l + 64 * item + 512 * high;
            if (r / 512 % 10 == fee && r / 8192 % 4 == draw && r / 32768 % 20 == cancelled
                    && r / 1048576 % 2 == night) {
                bench.due("the r of the seed", firstR(seedFor(r)), r);
                return seedFor(r);
            }
        }
        throw new IllegalStateException("no such r");
    }

    private static void oneDay(String name, Bench.Recipe recipe, long seed, int want) {
        bench.answers(name + ": simulate(" + seed + ", 1)", want, recipe, x -> x.simulate(seed, 1));
    }

    private static void numberOfDays() {
        bench.sentence("`m`: number of days, 1 to 99",
                "Throws `IllegalArgumentException` if m is out of range");
        bench.range("simulate(7, m)", Bench.ARGUMENT, 1, 99, Bench::busy, (x, m) -> x.simulate(7L, m));
        bench.range("simulate(min, m)", Bench.ARGUMENT, 1, 99, Bench::fresh, (x, m) -> x.simulate(Long.MIN_VALUE, m));
        int[] days = {1, 2, 50, 98, 99};
        for (int m : days) {
            bench.answers("simulate(7, " + m + ")", byHand(Bench.busy(), 7L, m), Bench::busy, x -> x.simulate(7L, m));
        }
    }

    /** The days done with the object's own actions, the numbers of the days without overflow. */
    private static int byHand(NightTrains x, long seed, int days) {
        int delivered = x.about(2);
        int lapsed = x.about(3);
        BigInteger number = BigInteger.valueOf(seed);
        for (int day = 0; day < days; day++) {
            number = next(number);
            oneDayByHand(x, r(number));
        }
        return 10000 * (x.about(2) - delivered) + 100 * (x.about(3) - lapsed) + x.about(1);
    }

    private static void oneDayByHand(NightTrains x, int r) {
        int lot = r / 4 % 16;
        boolean inFront = x.lot(lot, 0) != Bench.NONE;
        int fee = r / 512 % 10;
        if (inFront || x.about(1) < 20 && x.reader(r % 4, 0) >= fee) {
            x.ask(r % 4, lot, r / 64 % 8, fee);
        }
        if (r / 8192 % 4 == 0 && r / 32768 % 20 < x.about(1)) {
            x.cancel(r / 32768 % 20);
        }
        if (r / 1048576 % 2 == 0) {
            x.nights(1);
        }
    }

    private static void longOverflow() {
        bench.sentence("Each day first replaces x by x * 6364136223846793005L + 1442695040888963407L (with long "
                + "overflow), and r = (int) (x >>> 33) is computed;",
                "`seed`: any long", "A long x starts as the seed.");
        long[] seeds = {0L, 1L, -1L, 2L, Long.MAX_VALUE, Long.MIN_VALUE, Long.MAX_VALUE - 1, Long.MIN_VALUE + 1,
            1L << 33, -(1L << 33), 1L << 32, 4294967295L, seedFor(0), seedFor(Integer.MAX_VALUE), seedFor(1 << 30)};
        for (long seed : seeds) {
            bench.answers("simulate(" + seed + ", 1)", byHand(Bench.busy(), seed, 1), Bench::busy,
                    x -> x.simulate(seed, 1));
            bench.answers("simulate(" + seed + ", 60)", byHand(Bench.busy(), seed, 60), Bench::busy,
                    x -> x.simulate(seed, 60));
        }
        // r is 0: order, cancel, night; r is the greatest: reader 3, lot 15, fee 3, no cancel, no night.
        oneDay("the least r", Bench::fresh, seedFor(0), 0);
        oneDay("the greatest r", Bench::fresh, seedFor(Integer.MAX_VALUE), 1);
    }

    private static void dayOfASimulation() {
        bench.sentence("ask(r % 4, r / 4 % 16, r / 64 % 8, r / 512 % 10) is called, and if r / 8192 % 4 is 0, "
                + "cancel(r / 32768 % 20); then a night goes by, if r / 1048576 % 2 is 0.");
        oneDay("a night", Bench::fresh, seedFor(0, 0, 0, 0, 1, 0, 0), 10000);
        oneDay("no night", Bench::fresh, seedFor(0, 0, 0, 0, 1, 0, 1), 1);
        oneDay("a cancel and a night", Bench::fresh, seedFor(3, 15, 7, 9, 0, 0, 0), 0);
        oneDay("a cancel and no night", Bench::fresh, seedFor(3, 15, 7, 9, 0, 0, 1), 0);
        for (int draw = 1; draw <= 3; draw++) {
            oneDay("no cancel, drawn " + draw, Bench::fresh, seedFor(3, 15, 7, 9, draw, 0, 1), 1);
        }
        // Lot 5 is in front, whoever asks; the night would bring lots 9 and 6 by the first order's rule.
        oneDay("in front, no night", Bench::busy, seedFor(2, 5, 7, 9, 1, 0, 1), 10003);
        oneDay("in front, a cancel", Bench::busy, seedFor(2, 5, 7, 9, 0, 2, 1), 10002);
        // The ask comes before the cancel, the cancel before the night.
        oneDay("the new order is cancelled", Bench::busy, seedFor(1, 0, 0, 0, 0, 3, 1), 3);
        oneDay("it comes no more", Bench::fresh, seedFor(1, 0, 0, 9, 0, 0, 0), 0);
    }

    private static void leftOutInASimulation() {
        bench.sentence("What would throw an exception is left out.");
        oneDay("cancel(1) of one", Bench::fresh, seedFor(0, 0, 0, 0, 0, 1, 1), 1);
        oneDay("cancel(19) of one, and a night", Bench::fresh, seedFor(0, 0, 0, 0, 0, 19, 0), 10000);
        oneDay("cancel(3) of four", Bench::busy, seedFor(0, 0, 0, 0, 0, 3, 1), 3);
        oneDay("cancel(4) of four", Bench::busy, seedFor(0, 0, 0, 0, 0, 4, 1), 4);
        oneDay("ask() with 20 open", Bench::full, seedFor(0, 0, 0, 0, 1, 0, 1), 20);
        oneDay("ask() with 20 open, cancel(19)", Bench::full, seedFor(0, 0, 0, 0, 0, 19, 1), 19);
        oneDay("ask() with 5 in the purse for 5", Bench::poor, seedFor(0, 5, 0, 5, 1, 0, 1), 6);
        oneDay("ask() with 5 in the purse for 6", Bench::poor, seedFor(0, 5, 0, 6, 1, 0, 1), 5);
        oneDay("ask() with 5 in the purse for 6, cancel(4)", Bench::poor, seedFor(0, 5, 0, 6, 0, 4, 1), 4);
        oneDay("ask() with 5 in the purse for 6, a night", Bench::poor, seedFor(0, 5, 0, 6, 1, 0, 0), 10004);
    }

    private static void answerOfASimulation() {
        bench.sentence("Returns 10000 * (the orders that are delivered in them, also at once) + 100 * (those that "
                + "lapse in them) + (the open orders at the end).");
        Bench.Recipe twenty = () -> lapsedSoMany(20);
        oneDay("20 have lapsed before", twenty, seedFor(0, 0, 0, 0, 1, 0, 1), 1);
        Bench.Recipe hasty = () -> {
            NightTrains x = Bench.full();
            x.set(Bench.PATIENCE, 1);
            return x;
        };
        oneDay("20 open, one lot comes, 18 lapse", hasty, seedFor(0, 0, 0, 0, 1, 0, 0), 21800);
        Bench.Recipe idle = () -> {
            NightTrains x = hasty.make();
            x.set(Bench.TRAIN_ROOM, 0);
            return x;
        };
        oneDay("20 lapse", idle, seedFor(0, 0, 0, 0, 1, 0, 0), 2000);
        oneDay("one is cancelled, 19 lapse", idle, seedFor(0, 0, 0, 0, 0, 19, 0), 1900);
        oneDay("25 were delivered before", () -> deliveredToReader3(25), seedFor(3, 5, 0, 9, 1, 0, 1), 10000);
    }

    private static void simulationOnACopy() {
        bench.sentence("Simulates m days on a copy of the state.");
        bench.changesNothing("simulate(7, 1)", Bench::busy, x -> x.simulate(7L, 1));
        bench.changesNothing("simulate(7, 99)", Bench::busy, x -> x.simulate(7L, 99));
        NightTrains x = Bench.busy();
        int first = x.simulate(7L, 99);
        bench.due("the same again", x.simulate(7L, 99), first);
    }
}
