import java.util.ArrayDeque;
import java.util.ArrayList;
import java.util.Deque;
import java.util.List;
import java.util.regex.Matcher;
import java.util.regex.Pattern;

/** The document read a second time, slowly and with the Java library: what ModelTest compares the class with. */
final class Model {
    private static final Pattern STORE = Pattern.compile(
            "D[0-4][1-6][1-9][1-9][0-2](o[0-3](0[0-9]|1[0-5])[0-7][0-9]|c[01][0-9]|n[1-9])*", Pattern.DOTALL);

    static final class Order {
        final int reader;
        final int lot;
        final int item;
        int fee;
        int waited;

        Order(int reader, int lot, int item, int fee, int waited) {
            this.reader = reader;
            this.lot = lot;
            this.item = item;
            this.fee = fee;
            this.waited = waited;
        }
    }

    static final class State {
        int[] settings = {1, 3, 2, 5, 0};
        int[] purse = {50, 50, 50, 50};
        int[] readerDelivered = new int[4];
        int[] readerLapsed = new int[4];
        Integer[] front = new Integer[16];
        int[] taken = new int[16];
        List<Order> open = new ArrayList<>();
        List<Order> ended = new ArrayList<>();
        int nights;
        int lapsed;
        int cancelled;
        int kept;
        int paidBack;
        int trainNights;
        List<Order> lapsedTonight = new ArrayList<>();
        List<Integer> takenTonight = new ArrayList<>();

        State copy() {
            State s = new State();
            s.settings = settings.clone();
            s.purse = purse.clone();
            s.readerDelivered = readerDelivered.clone();
            s.readerLapsed = readerLapsed.clone();
            s.front = front.clone();
            s.taken = taken.clone();
            for (Order o : open) {
                s.open.add(new Order(o.reader, o.lot, o.item, o.fee, o.waited));
            }
            s.ended = new ArrayList<>(ended);
            s.nights = nights;
            s.lapsed = lapsed;
            s.cancelled = cancelled;
            s.kept = kept;
            s.paidBack = paidBack;
            s.trainNights = trainNights;
            return s;
        }

        int lotsInFront() {
            int n = 0;
            for (Integer f : front) {
                n += f == null ? 0 : 1;
            }
            return n;
        }

        int allTaken() {
            int n = 0;
            for (int t : taken) {
                n += t;
            }
            return n;
        }

        void deliver(Order o) {
            ended.add(o);
            readerDelivered[o.reader]++;
            kept += o.fee;
        }

        int ask(int c, int l, int item, int fee) {
            if (c < 0 || c > 3 || l < 0 || l > 15) {
                throw new IndexOutOfBoundsException();
            }
            if (item < 0 || item > 7 || fee < 0 || fee > 9) {
                throw new IllegalArgumentException();
            }
            if (front[l] != null) {
                front[l] = 0;
                deliver(new Order(c, l, item, 0, 0));
                return -1;
            }
            if (open.size() == 20 || purse[c] < fee) {
                throw new IllegalStateException();
            }
            purse[c] -= fee;
            open.add(new Order(c, l, item, fee, 0));
            return open.size() - 1;
        }

        Order orderAt(int i) {
            if (i < 0 || i >= open.size()) {
                throw new IndexOutOfBoundsException();
            }
            return open.get(i);
        }

        int cancel(int i) {
            Order o = orderAt(i);
            open.remove(o);
            purse[o.reader] += o.fee;
            paidBack += o.fee;
            cancelled++;
            return o.fee;
        }

        int raise(int i, int by) {
            Order o = orderAt(i);
            if (by < 1 || by > 9) {
                throw new IllegalArgumentException();
            }
            if (o.fee + by > 9 || purse[o.reader] < by) {
                throw new IllegalStateException();
            }
            purse[o.reader] -= by;
            o.fee += by;
            return o.fee;
        }

        int nights(int n) {
            if (n < 1 || n > 30) {
                throw new IllegalArgumentException();
            }
            int before = ended.size();
            for (int i = 0; i < n; i++) {
                night();
            }
            return ended.size() - before;
        }

        int set(int what, int v) {
            int[][] ranges = {{0, 4}, {1, 6}, {1, 9}, {1, 9}, {0, 2}};
            if (what < 0 || what > 4 || v < ranges[what][0] || v > ranges[what][1]) {
                throw new IllegalArgumentException();
            }
            int old = settings[what];
            settings[what] = v;
            return old;
        }

        int give(int c, int v) {
            if (c < 0 || c > 3) {
                throw new IndexOutOfBoundsException();
            }
            if (v < 1 || v > 100) {
                throw new IllegalArgumentException();
            }
            purse[c] += v;
            return purse[c];
        }

        Integer chosen() {
            if (open.isEmpty()) {
                return null;
            }
            if (settings[4] == 1) {
                return open.get(0).lot;
            }
            int[] weight = new int[16];
            boolean[] wanted = new boolean[16];
            for (Order o : open) {
                wanted[o.lot] = true;
                weight[o.lot] += settings[4] == 0 ? o.fee : 1;
            }
            Integer best = null;
            for (int l = 15; l >= 0; l--) {
                if (wanted[l] && (best == null || weight[l] >= weight[best])) {
                    best = l;
                }
            }
            return best;
        }

        void sendOneBack() {
            int oldest = -1;
            for (int l = 15; l >= 0; l--) {
                if (front[l] != null && (oldest < 0 || front[l] >= front[oldest])) {
                    oldest = l;
                }
            }
            front[oldest] = null;
        }

        void night() {
            takenTonight.clear();
            lapsedTonight.clear();
            while (takenTonight.size() < settings[0]) {
                Integer lot = chosen();
                if (lot == null) {
                    break;
                }
                while (lotsInFront() >= settings[1]) {
                    sendOneBack();
                }
                takenTonight.add(lot);
                taken[lot]++;
                front[lot] = 0;
                for (Order o : new ArrayList<>(open)) {
                    if (o.lot == lot) {
                        open.remove(o);
                        deliver(o);
                    }
                }
            }
            if (!takenTonight.isEmpty()) {
                trainNights++;
            }
            for (Order o : new ArrayList<>(open)) {
                o.waited++;
                if (o.waited >= settings[3]) {
                    open.remove(o);
                    lapsedTonight.add(o);
                    purse[o.reader] += o.fee;
                    paidBack += o.fee;
                    readerLapsed[o.reader]++;
                    lapsed++;
                }
            }
            for (int l = 0; l < 16; l++) {
                if (front[l] != null) {
                    front[l] = front[l] + 1 > settings[2] ? null : (Integer) (front[l] + 1);
                }
            }
            nights++;
        }

        int held() {
            int sum = 0;
            for (Order o : open) {
                sum += o.fee;
            }
            return sum;
        }
    }

    State s = new State();
    private final StringBuilder text = new StringBuilder();
    private final Deque<State> before = new ArrayDeque<>();
    private final State[] slots = new State[2];

    private void act(State old) {
        before.addLast(old);
        if (before.size() > 14) {
            before.removeFirst();
        }
    }

    int append(int c) {
        if (c < 0 || c > 255) {
            throw new IllegalArgumentException();
        }
        if (text.length() >= 120) {
            throw new IllegalStateException();
        }
        text.append((char) c);
        return text.length();
    }

    int clearText() {
        int n = text.length();
        text.setLength(0);
        return n;
    }

    int errorPosition() {
        for (int n = 1; n <= text.length(); n++) {
            Matcher m = STORE.matcher(text.substring(0, n));
            if (!m.matches() && !m.hitEnd()) {
                return n - 1;
            }
        }
        return STORE.matcher(text).matches() ? -1 : text.length();
    }

    int load() {
        if (errorPosition() != -1) {
            throw new IllegalStateException();
        }
        s = new State();
        before.clear();
        slots[0] = null;
        slots[1] = null;
        for (int w = 0; w < 5; w++) {
            s.settings[w] = text.charAt(1 + w) - '0';
        }
        int out = 0;
        Matcher m = Pattern.compile("[ocn][0-9]+").matcher(text.substring(6));
        while (m.find()) {
            String g = m.group();
            try {
                switch (g.charAt(0)) {
                    case 'o':
                        s.ask(digits(g, 1, 2), digits(g, 2, 4), digits(g, 4, 5), digits(g, 5, 6));
                        break;
                    case 'c':
                        s.cancel(digits(g, 1, 3));
                        break;
                    default:
                        s.nights(digits(g, 1, 2));
                        break;
                }
            } catch (RuntimeException e) {
                out++;
            }
        }
        return out;
    }

    private static int digits(String g, int from, int to) {
        return Integer.parseInt(g.substring(from, to));
    }

    int about(int what) {
        if (what < 0 || what > 10) {
            throw new IllegalArgumentException();
        }
        return new int[] {s.nights, s.open.size(), s.ended.size(), s.lapsed, s.cancelled, s.kept, s.held(), s.paidBack,
            s.lotsInFront(), s.allTaken(), s.trainNights}[what];
    }

    int order(int i, int what) {
        Order o = s.orderAt(i);
        if (what < 0 || what > 4) {
            throw new IllegalArgumentException();
        }
        return new int[] {o.reader, o.lot, o.item, o.fee, o.waited}[what];
    }

    int lot(int l, int what) {
        if (l < 0 || l > 15) {
            throw new IndexOutOfBoundsException();
        }
        if (what < 0 || what > 3) {
            throw new IllegalArgumentException();
        }
        int orders = 0;
        int fees = 0;
        for (Order o : s.open) {
            orders += o.lot == l ? 1 : 0;
            fees += o.lot == l ? o.fee : 0;
        }
        return new int[] {s.front[l] == null ? -1 : s.front[l], orders, fees, s.taken[l]}[what];
    }

    int reader(int c, int what) {
        if (c < 0 || c > 3) {
            throw new IndexOutOfBoundsException();
        }
        if (what < 0 || what > 3) {
            throw new IllegalArgumentException();
        }
        int orders = 0;
        for (Order o : s.open) {
            orders += o.reader == c ? 1 : 0;
        }
        return new int[] {s.purse[c], orders, s.readerDelivered[c], s.readerLapsed[c]}[what];
    }

    int delivered(int k, int what) {
        if (k < 0 || k > 9 || what < 0 || what > 4) {
            throw new IllegalArgumentException();
        }
        if (k >= s.ended.size()) {
            return -1;
        }
        Order o = s.ended.get(s.ended.size() - 1 - k);
        return new int[] {o.reader, o.lot, o.item, o.waited, o.fee}[what];
    }

    int setting(int what) {
        if (what < 0 || what > 4) {
            throw new IllegalArgumentException();
        }
        return s.settings[what];
    }

    int ask(int c, int l, int item, int fee) {
        State old = s.copy();
        int r = s.ask(c, l, item, fee);
        act(old);
        return r;
    }

    int cancel(int i) {
        State old = s.copy();
        int r = s.cancel(i);
        act(old);
        return r;
    }

    int raise(int i, int by) {
        State old = s.copy();
        int r = s.raise(i, by);
        act(old);
        return r;
    }

    int nights(int n) {
        State old = s.copy();
        int r = s.nights(n);
        act(old);
        return r;
    }

    int give(int c, int v) {
        State old = s.copy();
        int r = s.give(c, v);
        act(old);
        return r;
    }

    int set(int what, int v) {
        State old = s.copy();
        int r = s.set(what, v);
        act(old);
        return r;
    }

    int undo() {
        if (before.isEmpty()) {
            throw new IllegalStateException();
        }
        s = before.removeLast();
        return before.size();
    }

    int arrives(int i) {
        s.orderAt(i);
        State t = s.copy();
        Order o = t.open.get(i);
        int n = 0;
        while (t.open.contains(o)) {
            t.night();
            n++;
        }
        return t.ended.contains(o) ? n : -1;
    }

    int next(int k) {
        if (k < 0) {
            throw new IllegalArgumentException();
        }
        State t = s.copy();
        t.night();
        return k < t.takenTonight.size() ? t.takenTonight.get(k) : -1;
    }

    int feeFor(int l) {
        if (l < 0 || l > 15) {
            throw new IndexOutOfBoundsException();
        }
        for (int fee = 0; fee <= 9; fee++) {
            State t = s.copy();
            Order o = new Order(0, l, 0, fee, 0);
            if (t.front[l] != null) {
                return fee;
            }
            t.open.add(o);
            t.night();
            if (t.ended.contains(o)) {
                return fee;
            }
        }
        return -1;
    }

    int would(int n, int what) {
        if (n < 0 || n > 60 || what < 0 || what > 3) {
            throw new IllegalArgumentException();
        }
        State t = s.copy();
        for (int i = 0; i < n; i++) {
            t.night();
        }
        return new int[] {t.ended.size() - s.ended.size(), t.lapsed - s.lapsed, t.kept - s.kept,
            t.allTaken() - s.allTaken()}[what];
    }

    int bestRule() {
        int best = -1;
        int[] most = {-1, -1};
        for (int rule = 0; rule < 3; rule++) {
            State t = s.copy();
            t.settings[4] = rule;
            while (!t.open.isEmpty()) {
                t.night();
            }
            int[] got = {t.ended.size() - s.ended.size(), t.kept - s.kept};
            if (got[0] > most[0] || got[0] == most[0] && got[1] > most[1]) {
                best = rule;
                most = got;
            }
        }
        return best;
    }

    int leastRoom() {
        for (int room = 0; room <= 16; room++) {
            State t = s.copy();
            t.settings[0] = room;
            while (!t.open.isEmpty()) {
                t.night();
            }
            if (t.lapsed == s.lapsed) {
                return room;
            }
        }
        return -1;
    }

    int runScript(int n, long script) {
        if (n < 1 || n > 3 || script < 0 || Long.toString(script).length() > 5 * n) {
            throw new IllegalArgumentException();
        }
        StringBuilder digits = new StringBuilder(Long.toString(script));
        while (digits.length() < 5 * n) {
            digits.insert(0, '0');
        }
        State t = s.copy();
        for (int i = 0; i < n; i++) {
            try {
                if (!run(t, digits.substring(5 * i, 5 * i + 5))) {
                    return i;
                }
            } catch (IndexOutOfBoundsException | IllegalArgumentException | IllegalStateException e) {
                return i;
            }
        }
        return -1;
    }

    private static boolean run(State t, String g) {
        if (g.matches("1....")) {
            t.ask(digits(g, 1, 2), digits(g, 2, 4), 0, digits(g, 4, 5));
            return true;
        }
        if (g.matches("2..00")) {
            t.cancel(digits(g, 1, 3));
            return true;
        }
        if (g.matches("3..0.")) {
            t.raise(digits(g, 1, 3), digits(g, 4, 5));
            return true;
        }
        if (g.matches("400..")) {
            t.nights(digits(g, 3, 5));
            return true;
        }
        if (g.matches("5.0.0")) {
            t.set(digits(g, 1, 2), digits(g, 3, 4));
            return true;
        }
        if (g.matches("6..0[01]")) {
            int l = digits(g, 1, 3);
            return l < 16 && (t.front[l] != null) == g.endsWith("1");
        }
        if (g.matches("7[0-3]0..")) {
            return t.readerDelivered[digits(g, 1, 2)] >= digits(g, 3, 5);
        }
        if (g.matches("800..")) {
            return t.lapsed <= digits(g, 3, 5);
        }
        return g.matches("90...") && t.kept >= digits(g, 2, 5);
    }

    int simulate(long seed, int m) {
        if (m < 1 || m > 99) {
            throw new IllegalArgumentException();
        }
        State t = s.copy();
        long x = seed;
        for (int day = 0; day < m; day++) {
            x = x * 6364136223846793005L + 1442695040888963407L;
            int r = (int) (x >>> 33);
            try {
                t.ask(r % 4, r / 4 % 16, r / 64 % 8, r / 512 % 10);
            } catch (IllegalStateException e) {
                // left out
            }
            if (r / 8192 % 4 == 0) {
                try {
                    t.cancel(r / 32768 % 20);
                } catch (IndexOutOfBoundsException e) {
                    // left out
                }
            }
            if (r / 1048576 % 2 == 0) {
                t.night();
            }
        }
        return 10000 * (t.ended.size() - s.ended.size()) + 100 * (t.lapsed - s.lapsed) + t.open.size();
    }

    int save(int slot) {
        if (slot < 0 || slot > 1) {
            throw new IndexOutOfBoundsException();
        }
        slots[slot] = s.copy();
        return s.nights;
    }

    int restore(int slot) {
        if (slot < 0 || slot > 1) {
            throw new IndexOutOfBoundsException();
        }
        if (slots[slot] == null) {
            throw new IllegalStateException();
        }
        s = slots[slot].copy();
        before.clear();
        return s.nights;
    }
}
