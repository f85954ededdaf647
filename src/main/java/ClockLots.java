/**
 * A clock auction of lots of three kinds, with packages at the end, their best assignment and what each bidder pays.
 * Every row that a call needs is made in the constructors and used again, so that calls make no objects.
 */
public final class ClockLots {
    public static final int NONE = -1;

    private static final int KINDS = 3;
    private static final int MOST_BIDDERS = 6;
    private static final int MOST_PACKS = 3;
    private static final int MOST_LOTS = 9;
    private static final int MOST_RIGHT = 99;
    private static final int MOST_PRICE = 99999;
    private static final int MOST_VALUE = 99999;
    private static final int MOST_PACK_VALUE = 999999;
    private static final int MOST_TEXT = 120;
    private static final int MOST_REMEMBERED = 14;
    private static final int SLOTS = 2;
    private static final int MOST_ROUNDS_AHEAD = 200;
    private static final int MOST_COMMANDS = 3;
    private static final int MOST_TURNS = 99;
    private static final int GROUP = 100000;

    // Answers of the whyNot methods: numbers, since texts, scripts and simulations leave out what would throw.
    private static final int FINE = 0;
    private static final int NO_SUCH = 1;
    private static final int OUT_OF_RANGE = 2;
    private static final int NOT_NOW = 3;

    private final Auction now = new Auction();
    private final Auction copy = new Auction();
    private final History history = new History();
    private final Auction[] slots = {new Auction(), new Auction()};
    private final boolean[] saved = new boolean[SLOTS];
    private final Text text = new Text();
    private final Assignment assignment = new Assignment();

    public ClockLots() {
    }

    // ---- text

    public int append(int c) throws IllegalArgumentException, IllegalStateException {
        if (outside(c, 0, 255)) {
            throw new IllegalArgumentException("no character code");
        }
        if (text.isFull()) {
            throw new IllegalStateException("the text is full");
        }
        return text.put((char) c);
    }

    public int clearText() {
        return text.empty();
    }

    public int errorPosition() {
        return text.firstError();
    }

    public int load() throws IllegalStateException {
        if (text.firstError() != NONE) {
            throw new IllegalStateException("the text is not an auction");
        }
        now.renew();
        history.forgetAll();
        for (int slot = 0; slot < SLOTS; slot++) {
            saved[slot] = false;
        }
        return text.doCommands(now);
    }

    // ---- what there is

    public int about(int what) throws IllegalArgumentException {
        switch (what) {
            case 0:
                return now.bidders;
            case 1:
                return now.rounds;
            case 2:
                return now.over ? 1 : 0;
            case 3:
                return now.scarceKinds();
            case 4:
                return now.allPacks();
            case 5:
                return now.allCosts();
            default:
                throw new IllegalArgumentException("what is not 0 to 5");
        }
    }

    public int kind(int k, int what) throws IndexOutOfBoundsException, IllegalArgumentException {
        needKind(k);
        switch (what) {
            case 0:
                return now.supply[k];
            case 1:
                return now.points[k];
            case 2:
                return now.price[k];
            case 3:
                return now.askedOf(k);
            default:
                throw new IllegalArgumentException("what is not 0 to 3");
        }
    }

    public int bidder(int b, int what) throws IndexOutOfBoundsException, IllegalArgumentException {
        needBidder(b);
        switch (what) {
            case 0:
                return now.right[b];
            case 1:
                return now.cap[b];
            case 2:
                return now.activity(b);
            case 3:
                return now.packs[b];
            case 4:
                return now.profit(b);
            default:
                throw new IllegalArgumentException("what is not 0 to 4");
        }
    }

    public int demand(int b, int k) throws IndexOutOfBoundsException {
        needBidder(b);
        needKind(k);
        return now.demand[cell(b, k)];
    }

    public int pack(int b, int i, int what) throws IndexOutOfBoundsException, IllegalArgumentException {
        needBidder(b);
        if (outside(i, 0, now.packs[b])) {
            throw new IndexOutOfBoundsException("no such package");
        }
        if (outside(what, 0, KINDS)) {
            throw new IllegalArgumentException("what is not 0 to 3");
        }
        return what == KINDS ? now.packValue(b, i) : now.packLots(b, i, what);
    }

    public int setting(int what) throws IllegalArgumentException {
        if (outside(what, 0, 1)) {
            throw new IllegalArgumentException("no such setting");
        }
        return now.settingOf(what);
    }

    // ---- actions

    public int offer(int k, int supply, int points)
            throws IndexOutOfBoundsException, IllegalArgumentException, IllegalStateException {
        refuse(now.whyNotOffer(k, supply, points));
        history.remember(now);
        int previous = now.supply[k];
        now.changeOffer(k, supply, points);
        return previous;
    }

    public int price(int k, int price)
            throws IndexOutOfBoundsException, IllegalArgumentException, IllegalStateException {
        refuse(now.whyNotPrice(k, price));
        history.remember(now);
        int previous = now.price[k];
        now.price[k] = price;
        return previous;
    }

    public int join(int right, int cap) throws IllegalArgumentException, IllegalStateException {
        refuse(now.whyNotJoin(right, cap));
        history.remember(now);
        now.addBidder(right, cap);
        return now.bidders - 1;
    }

    public int value(int b, int k, int value) throws IndexOutOfBoundsException, IllegalArgumentException {
        refuse(now.whyNotValue(b, k, value));
        history.remember(now);
        int previous = now.value[cell(b, k)];
        now.value[cell(b, k)] = value;
        return previous;
    }

    public int ask(int b, int k, int n)
            throws IndexOutOfBoundsException, IllegalArgumentException, IllegalStateException {
        refuse(now.whyNotAsk(b, k, n));
        history.remember(now);
        now.demand[cell(b, k)] = n;
        return now.activity(b);
    }

    public int bid(int b) throws IndexOutOfBoundsException, IllegalStateException {
        refuse(now.whyNotBid(b));
        history.remember(now);
        now.bidByValues(b);
        return now.profit(b);
    }

    public int close() throws IllegalStateException {
        refuse(now.whyNotClose());
        history.remember(now);
        return now.closeRound();
    }

    public int add(int b, int a0, int a1, int a2, int value)
            throws IndexOutOfBoundsException, IllegalArgumentException, IllegalStateException {
        refuse(now.whyNotAdd(b, a0, a1, a2, value));
        history.remember(now);
        now.addPack(b, a0, a1, a2, value);
        return now.packs[b];
    }

    public int drop(int b, int i) throws IndexOutOfBoundsException {
        refuse(now.whyNotDrop(b, i));
        history.remember(now);
        now.dropPack(b, i);
        return now.packs[b];
    }

    public int set(int what, int v) throws IllegalArgumentException {
        refuse(now.whyNotSet(what, v));
        history.remember(now);
        int previous = now.settingOf(what);
        now.changeSetting(what, v);
        return previous;
    }

    public int undo() throws IllegalStateException {
        if (history.isEmpty()) {
            throw new IllegalStateException("no state is remembered");
        }
        history.takeBack(now);
        return history.size();
    }

    // ---- the best assignment, and what would be

    public int best() {
        return assignment.find(now, NONE, NONE);
    }

    public int gets(int b) throws IndexOutOfBoundsException {
        needBidder(b);
        assignment.find(now, NONE, NONE);
        return assignment.packOf(b);
    }

    public int pays(int b) throws IndexOutOfBoundsException {
        needBidder(b);
        int worth = assignment.find(now, NONE, NONE);
        int i = assignment.packOf(b);
        int own = i == NONE ? 0 : now.packValue(b, i);
        return assignment.find(now, b, NONE) - (worth - own);
    }

    public int oneMore(int k) throws IndexOutOfBoundsException {
        needKind(k);
        int worth = assignment.find(now, NONE, NONE);
        return assignment.find(now, NONE, k) - worth;
    }

    public int leastMissed() {
        int least = NONE;
        int most = NONE;
        for (int b = 0; b < now.bidders; b++) {
            int worth = assignment.find(now, b, NONE);
            if (worth > most) {
                most = worth;
                least = b;
            }
        }
        return least;
    }

    public int wouldAsk(int b, int k) throws IndexOutOfBoundsException {
        needBidder(b);
        needKind(k);
        copy.become(now);
        copy.bidByValues(b);
        return copy.demand[cell(b, k)];
    }

    public int roundsLeft() {
        int rounds = runToTheEnd();
        return copy.over ? rounds : NONE;
    }

    public int endPrice(int k) throws IndexOutOfBoundsException {
        needKind(k);
        runToTheEnd();
        return copy.price[k];
    }

    // ---- scripts, simulations

    public int runScript(int n, long script) throws IllegalArgumentException {
        if (outside(n, 1, MOST_COMMANDS)) {
            throw new IllegalArgumentException("n is not 1 to 3");
        }
        long unit = 1;
        for (int i = 1; i < n; i++) {
            unit *= GROUP;
        }
        if (script < 0 || script / GROUP >= unit) {
            throw new IllegalArgumentException("the script does not have 0 to 5 * n digits");
        }
        copy.become(now);
        for (int i = 0; i < n && unit > 0; i++) {
            if (!Script.succeeds(copy, (int) (script / unit % GROUP))) {
                return i;
            }
            unit /= GROUP;
        }
        return NONE;
    }

    public int simulate(long seed, int m) throws IllegalArgumentException {
        if (outside(m, 1, MOST_TURNS)) {
            throw new IllegalArgumentException("m is not 1 to 99");
        }
        copy.become(now);
        long x = seed;
        for (int turn = 0; turn < m; turn++) {
            x = x * 6364136223846793005L + 1442695040888963407L;
            Script.takeTurn(copy, (int) (x >>> 33));
        }
        return 1000 * (copy.rounds - now.rounds) + copy.allDemands();
    }

    // ---- save slots

    public int save(int slot) throws IndexOutOfBoundsException {
        needSlot(slot);
        slots[slot].become(now);
        saved[slot] = true;
        return now.rounds;
    }

    public int restore(int slot) throws IndexOutOfBoundsException, IllegalStateException {
        needSlot(slot);
        if (!saved[slot]) {
            throw new IllegalStateException("nothing has been saved there");
        }
        now.become(slots[slot]);
        history.forgetAll();
        return now.rounds;
    }

    /** Plays the copy until it is over, at most 200 rounds, and tells how many were closed. */
    private int runToTheEnd() {
        copy.become(now);
        int rounds = 0;
        while (!copy.over && rounds < MOST_ROUNDS_AHEAD) {
            for (int b = 0; b < copy.bidders; b++) {
                copy.bidByValues(b);
            }
            copy.closeRound();
            rounds++;
        }
        return rounds;
    }

    private void needKind(int k) {
        if (noKind(k)) {
            throw new IndexOutOfBoundsException("no such kind");
        }
    }

    private void needBidder(int b) {
        if (now.noBidder(b)) {
            throw new IndexOutOfBoundsException("no such bidder");
        }
    }

    private void needSlot(int slot) {
        if (outside(slot, 0, SLOTS - 1)) {
            throw new IndexOutOfBoundsException("no such save slot");
        }
    }

    private static void refuse(int why) {
        switch (why) {
            case NO_SUCH:
                throw new IndexOutOfBoundsException("no such kind, bidder or package");
            case OUT_OF_RANGE:
                throw new IllegalArgumentException("an argument is out of its range");
            case NOT_NOW:
                throw new IllegalStateException("not allowed as the auction stands");
            default:
                break;
        }
    }

    private static boolean noKind(int k) {
        return outside(k, 0, KINDS - 1);
    }

    private static boolean outside(int n, int low, int high) {
        return n < low || n > high;
    }

    private static int quotient(int n, int divisor) {
        return divisor > 0 ? n / divisor : 0;
    }

    private static int cell(int b, int k) {
        return b * KINDS + k;
    }

    /** The state: all that actions change. */
    private static final class Auction {
        final int[] supply = new int[KINDS];
        final int[] points = new int[KINDS];
        final int[] price = new int[KINDS];
        final int[] right = new int[MOST_BIDDERS];
        final int[] cap = new int[MOST_BIDDERS];
        final int[] packs = new int[MOST_BIDDERS];
        final int[] value = new int[MOST_BIDDERS * KINDS];
        final int[] demand = new int[MOST_BIDDERS * KINDS];
        final int[] lots = new int[MOST_BIDDERS * MOST_PACKS * KINDS];
        final int[] worth = new int[MOST_BIDDERS * MOST_PACKS];
        int bidders;
        int rounds;
        boolean over;
        int keepPercent;
        int stepPercent;

        Auction() {
            renew();
        }

        void renew() {
            for (int k = 0; k < KINDS; k++) {
                supply[k] = 2;
                points[k] = 1;
                price[k] = 10;
            }
            bidders = 0;
            rounds = 0;
            over = false;
            keepPercent = 100;
            stepPercent = 10;
        }

        void become(Auction other) {
            System.arraycopy(other.supply, 0, supply, 0, KINDS);
            System.arraycopy(other.points, 0, points, 0, KINDS);
            System.arraycopy(other.price, 0, price, 0, KINDS);
            System.arraycopy(other.right, 0, right, 0, MOST_BIDDERS);
            System.arraycopy(other.cap, 0, cap, 0, MOST_BIDDERS);
            System.arraycopy(other.packs, 0, packs, 0, MOST_BIDDERS);
            System.arraycopy(other.value, 0, value, 0, MOST_BIDDERS * KINDS);
            System.arraycopy(other.demand, 0, demand, 0, MOST_BIDDERS * KINDS);
            System.arraycopy(other.lots, 0, lots, 0, MOST_BIDDERS * MOST_PACKS * KINDS);
            System.arraycopy(other.worth, 0, worth, 0, MOST_BIDDERS * MOST_PACKS);
            bidders = other.bidders;
            rounds = other.rounds;
            over = other.over;
            keepPercent = other.keepPercent;
            stepPercent = other.stepPercent;
        }

        // ---- what there is

        boolean noBidder(int b) {
            return outside(b, 0, bidders - 1);
        }

        int settingOf(int what) {
            return what == 0 ? keepPercent : stepPercent;
        }

        int askedOf(int k) {
            int sum = 0;
            for (int b = 0; b < bidders; b++) {
                sum += demand[cell(b, k)];
            }
            return sum;
        }

        int scarceKinds() {
            int scarce = 0;
            for (int k = 0; k < KINDS; k++) {
                if (askedOf(k) > supply[k]) {
                    scarce++;
                }
            }
            return scarce;
        }

        int allDemands() {
            int sum = 0;
            for (int k = 0; k < KINDS; k++) {
                sum += askedOf(k);
            }
            return sum;
        }

        int allCosts() {
            int sum = 0;
            for (int k = 0; k < KINDS; k++) {
                sum += askedOf(k) * price[k];
            }
            return sum;
        }

        int allPacks() {
            int sum = 0;
            for (int b = 0; b < bidders; b++) {
                sum += packs[b];
            }
            return sum;
        }

        int activity(int b) {
            int sum = 0;
            for (int k = 0; k < KINDS; k++) {
                sum += points[k] * demand[cell(b, k)];
            }
            return sum;
        }

        int profit(int b) {
            int sum = 0;
            for (int k = 0; k < KINDS; k++) {
                sum += demand[cell(b, k)] * margin(b, k);
            }
            return sum;
        }

        int margin(int b, int k) {
            return value[cell(b, k)] - price[k];
        }

        int mostLots(int b, int k) {
            return Math.min(cap[b], supply[k]);
        }

        int packLots(int b, int i, int k) {
            return i == 0 ? demand[cell(b, k)] : lots[cell(packCell(b, i), k)];
        }

        int packValue(int b, int i) {
            if (i > 0) {
                return worth[packCell(b, i)];
            }
            return costOf(demand[cell(b, 0)], demand[cell(b, 1)], demand[cell(b, 2)]);
        }

        int costOf(int a0, int a1, int a2) {
            return a0 * price[0] + a1 * price[1] + a2 * price[2];
        }

        static int packCell(int b, int i) {
            return b * MOST_PACKS + i - 1;
        }

        // ---- what forbids an action, in the order of the document's exceptions

        int whyNotOffer(int k, int newSupply, int newPoints) {
            if (noKind(k)) {
                return NO_SUCH;
            }
            if (outside(newSupply, 1, 9) || outside(newPoints, 1, 9)) {
                return OUT_OF_RANGE;
            }
            return rounds > 0 || bidders > 0 ? NOT_NOW : FINE;
        }

        int whyNotPrice(int k, int newPrice) {
            if (noKind(k)) {
                return NO_SUCH;
            }
            if (outside(newPrice, 1, MOST_PRICE)) {
                return OUT_OF_RANGE;
            }
            return rounds > 0 ? NOT_NOW : FINE;
        }

        int whyNotJoin(int newRight, int newCap) {
            if (outside(newRight, 0, MOST_RIGHT) || outside(newCap, 1, 9)) {
                return OUT_OF_RANGE;
            }
            return bidders >= MOST_BIDDERS || rounds > 0 ? NOT_NOW : FINE;
        }

        int whyNotValue(int b, int k, int newValue) {
            if (noBidder(b) || noKind(k)) {
                return NO_SUCH;
            }
            return outside(newValue, 0, MOST_VALUE) ? OUT_OF_RANGE : FINE;
        }

        int whyNotAsk(int b, int k, int n) {
            if (noBidder(b) || noKind(k)) {
                return NO_SUCH;
            }
            if (outside(n, 0, MOST_LOTS)) {
                return OUT_OF_RANGE;
            }
            if (over || n > mostLots(b, k)) {
                return NOT_NOW;
            }
            int more = n - demand[cell(b, k)];
            return activity(b) + more * points[k] > right[b] ? NOT_NOW : FINE;
        }

        int whyNotBid(int b) {
            if (noBidder(b)) {
                return NO_SUCH;
            }
            return over ? NOT_NOW : FINE;
        }

        int whyNotClose() {
            return over ? NOT_NOW : FINE;
        }

        int whyNotAdd(int b, int a0, int a1, int a2, int newValue) {
            if (noBidder(b)) {
                return NO_SUCH;
            }
            if (outside(a0, 0, MOST_LOTS) || outside(a1, 0, MOST_LOTS) || outside(a2, 0, MOST_LOTS)
                    || outside(newValue, 1, MOST_PACK_VALUE)) {
                return OUT_OF_RANGE;
            }
            if (!over || packs[b] >= MOST_PACKS || newValue < costOf(a0, a1, a2)) {
                return NOT_NOW;
            }
            return mayHave(b, a0, a1, a2) ? FINE : NOT_NOW;
        }

        boolean mayHave(int b, int a0, int a1, int a2) {
            if (a0 + a1 + a2 == 0) {
                return false;
            }
            if (a0 > mostLots(b, 0) || a1 > mostLots(b, 1) || a2 > mostLots(b, 2)) {
                return false;
            }
            return a0 * points[0] + a1 * points[1] + a2 * points[2] <= right[b];
        }

        int whyNotDrop(int b, int i) {
            return noBidder(b) || outside(i, 1, packs[b]) ? NO_SUCH : FINE;
        }

        int whyNotSet(int what, int v) {
            if (what == 0) {
                return outside(v, 50, 100) ? OUT_OF_RANGE : FINE;
            }
            return what != 1 || outside(v, 1, 50) ? OUT_OF_RANGE : FINE;
        }

        // ---- changes that nothing forbids

        void changeOffer(int k, int newSupply, int newPoints) {
            supply[k] = newSupply;
            points[k] = newPoints;
        }

        void addBidder(int newRight, int newCap) {
            int b = bidders;
            right[b] = newRight;
            cap[b] = newCap;
            packs[b] = 0;
            // The rows may still hold what a bidder of this number had before an undo, a load or a restore.
            changeDemands(b, 0, 0, 0);
            for (int k = 0; k < KINDS; k++) {
                value[cell(b, k)] = 0;
            }
            bidders++;
        }

        void changeSetting(int what, int v) {
            if (what == 0) {
                keepPercent = v;
            } else {
                stepPercent = v;
            }
        }

        /** Ascending demands, and only a greater profit counts: so of several the smallest demands stay. */
        void bidByValues(int b) {
            int most0 = mostWanted(b, 0);
            int most1 = mostWanted(b, 1);
            int most2 = mostWanted(b, 2);
            int greatest = -1;
            for (int n0 = 0; n0 <= most0; n0++) {
                for (int n1 = 0; n1 <= most1; n1++) {
                    int spare = right[b] - n0 * points[0] - n1 * points[1];
                    if (spare < 0) {
                        break;
                    }
                    // Each lot of the last kind gains the same, so as many as there is room for gain most.
                    int n2 = Math.min(most2, quotient(spare, points[2]));
                    int gain = n0 * margin(b, 0) + n1 * margin(b, 1) + n2 * margin(b, 2);
                    if (gain > greatest) {
                        greatest = gain;
                        changeDemands(b, n0, n1, n2);
                    }
                }
            }
        }

        /** Lots that gain nothing are never asked for, since of several demands the smallest ones count. */
        int mostWanted(int b, int k) {
            return value[cell(b, k)] > price[k] ? mostLots(b, k) : 0;
        }

        void changeDemands(int b, int n0, int n1, int n2) {
            demand[cell(b, 0)] = n0;
            demand[cell(b, 1)] = n1;
            demand[cell(b, 2)] = n2;
        }

        int closeRound() {
            for (int b = 0; b < bidders; b++) {
                right[b] = Math.min(right[b], quotient(activity(b) * 100, keepPercent));
            }
            int rising = 0;
            for (int k = 0; k < KINDS; k++) {
                if (askedOf(k) > supply[k]) {
                    rising++;
                    raisePrice(k);
                }
            }
            rounds++;
            over = rising == 0;
            return rising;
        }

        void raisePrice(int k) {
            int rise = Math.max(1, price[k] * stepPercent / 100);
            price[k] = Math.min(MOST_PRICE, price[k] + rise);
        }

        void addPack(int b, int a0, int a1, int a2, int newValue) {
            packs[b]++;
            int at = packCell(b, packs[b]);
            lots[cell(at, 0)] = a0;
            lots[cell(at, 1)] = a1;
            lots[cell(at, 2)] = a2;
            worth[at] = newValue;
        }

        void dropPack(int b, int i) {
            for (int next = i + 1; next <= packs[b]; next++) {
                int from = packCell(b, next);
                worth[from - 1] = worth[from];
                for (int k = 0; k < KINDS; k++) {
                    lots[cell(from - 1, k)] = lots[cell(from, k)];
                }
            }
            packs[b]--;
        }

        // ---- changes that are left out if something forbids them

        boolean tryOffer(int k, int newSupply, int newPoints) {
            if (whyNotOffer(k, newSupply, newPoints) != FINE) {
                return false;
            }
            changeOffer(k, newSupply, newPoints);
            return true;
        }

        boolean tryJoin(int newRight, int newCap) {
            if (whyNotJoin(newRight, newCap) != FINE) {
                return false;
            }
            addBidder(newRight, newCap);
            return true;
        }

        boolean tryValue(int b, int k, int newValue) {
            if (whyNotValue(b, k, newValue) != FINE) {
                return false;
            }
            value[cell(b, k)] = newValue;
            return true;
        }

        boolean tryAsk(int b, int k, int n) {
            if (whyNotAsk(b, k, n) != FINE) {
                return false;
            }
            demand[cell(b, k)] = n;
            return true;
        }

        boolean tryBid(int b) {
            if (whyNotBid(b) != FINE) {
                return false;
            }
            bidByValues(b);
            return true;
        }

        boolean tryClose() {
            if (whyNotClose() != FINE) {
                return false;
            }
            closeRound();
            return true;
        }

        boolean tryAdd(int b, int a0, int a1, int a2, int newValue) {
            if (whyNotAdd(b, a0, a1, a2, newValue) != FINE) {
                return false;
            }
            addPack(b, a0, a1, a2, newValue);
            return true;
        }

        boolean tryDrop(int b, int i) {
            if (whyNotDrop(b, i) != FINE) {
                return false;
            }
            dropPack(b, i);
            return true;
        }

        boolean trySet(int what, int v) {
            if (whyNotSet(what, v) != FINE) {
                return false;
            }
            changeSetting(what, v);
            return true;
        }
    }

    /** The remembered states: a ring, so that the oldest one is overwritten when one more is remembered. */
    private static final class History {
        private final Auction[] states = new Auction[MOST_REMEMBERED];
        private int next;
        private int count;

        History() {
            for (int i = 0; i < MOST_REMEMBERED; i++) {
                states[i] = new Auction();
            }
        }

        boolean isEmpty() {
            return count == 0;
        }

        int size() {
            return count;
        }

        void forgetAll() {
            count = 0;
        }

        void remember(Auction auction) {
            states[next].become(auction);
            next = next < MOST_REMEMBERED - 1 ? next + 1 : 0;
            count = Math.min(count + 1, MOST_REMEMBERED);
        }

        void takeBack(Auction auction) {
            next = next > 0 ? next - 1 : MOST_REMEMBERED - 1;
            count--;
            auction.become(states[next]);
        }
    }

    /** Looks through all assignments, in the order in which the document prefers them. */
    private static final class Assignment {
        private final int[] left = new int[KINDS];
        private final int[] taken = new int[MOST_BIDDERS];
        private final int[] bestTaken = new int[MOST_BIDDERS];
        private int bestWorth;

        /** What the best assignment is worth without a bidder and with one more lot of a kind (NONE: with all, as it is). */
        int find(Auction auction, int without, int moreOf) {
            for (int k = 0; k < KINDS; k++) {
                left[k] = auction.supply[k] + (k == moreOf ? 1 : 0);
            }
            bestWorth = -1;
            tryFrom(auction, without, 0, 0);
            return bestWorth;
        }

        int packOf(int b) {
            return bestTaken[b];
        }

        private void tryFrom(Auction auction, int without, int b, int sum) {
            if (b >= auction.bidders || b >= MOST_BIDDERS) {
                keepIfBetter(sum);
                return;
            }
            int last = b == without ? NONE : auction.packs[b];
            for (int i = NONE; i <= last; i++) {
                tryWith(auction, without, b, i, sum);
            }
        }

        private void tryWith(Auction auction, int without, int b, int i, int sum) {
            taken[b] = i;
            if (i == NONE) {
                tryFrom(auction, without, b + 1, sum);
            } else if (fits(auction, b, i)) {
                take(auction, b, i, 1);
                tryFrom(auction, without, b + 1, sum + auction.packValue(b, i));
                take(auction, b, i, -1);
            }
        }

        private boolean fits(Auction auction, int b, int i) {
            for (int k = 0; k < KINDS; k++) {
                if (auction.packLots(b, i, k) > left[k]) {
                    return false;
                }
            }
            return true;
        }

        private void take(Auction auction, int b, int i, int sign) {
            for (int k = 0; k < KINDS; k++) {
                left[k] -= sign * auction.packLots(b, i, k);
            }
        }

        private void keepIfBetter(int sum) {
            if (sum > bestWorth) {
                bestWorth = sum;
                System.arraycopy(taken, 0, bestTaken, 0, MOST_BIDDERS);
            }
        }
    }

    /** The text buffer, and an auction as a text. */
    private static final class Text {
        private final char[] letters = new char[MOST_TEXT];
        private int length;

        boolean isFull() {
            return length >= MOST_TEXT;
        }

        int put(char c) {
            letters[length] = c;
            length++;
            return length;
        }

        int empty() {
            int previous = length;
            length = 0;
            return previous;
        }

        int firstError() {
            if (length == 0 || letters[0] != 'L') {
                return 0;
            }
            int at = 1;
            while (at < length) {
                char command = letters[at];
                if (!isCommand(command)) {
                    return at;
                }
                int end = at + 1 + digitsOf(command);
                for (int i = at + 1; i < end; i++) {
                    if (i >= length || !allows(command, i - at - 1, letters[i])) {
                        return i;
                    }
                }
                at = end;
            }
            return NONE;
        }

        /** Does the commands of a text without error; returns how many are left out. */
        int doCommands(Auction auction) {
            int leftOut = 0;
            int at = 1;
            while (at < length) {
                if (!doCommand(auction, at)) {
                    leftOut++;
                }
                at += 1 + digitsOf(letters[at]);
            }
            return leftOut;
        }

        private boolean doCommand(Auction auction, int at) {
            switch (letters[at]) {
                case 's':
                    return auction.tryOffer(number(at + 1, 1), number(at + 2, 1), number(at + 3, 1));
                case 'b':
                    return auction.tryJoin(number(at + 1, 2), number(at + 3, 1));
                case 'v':
                    return auction.tryValue(number(at + 1, 1), number(at + 2, 1), number(at + 3, 3));
                case 'q':
                    return auction.tryAsk(number(at + 1, 1), number(at + 2, 1), number(at + 3, 1));
                case 'w':
                    return auction.tryBid(number(at + 1, 1));
                case 'c':
                    return auction.tryClose();
                default:
                    return false;
            }
        }

        private int number(int at, int digits) {
            int sum = 0;
            for (int i = at; i < at + digits && i < length; i++) {
                sum = 10 * sum + (letters[i] - '0');
            }
            return sum;
        }

        private static boolean isCommand(char c) {
            return "sbvqwc".indexOf(c) >= 0;
        }

        private static int digitsOf(char command) {
            return greatestDigits(command).length();
        }

        private static boolean allows(char command, int place, char c) {
            String least = leastDigits(command);
            String greatest = greatestDigits(command);
            if (place >= least.length() || place >= greatest.length()) {
                return false;
            }
            return c >= least.charAt(place) && c <= greatest.charAt(place);
        }

        private static String leastDigits(char command) {
            switch (command) {
                case 's':
                    return "011";
                case 'b':
                    return "001";
                case 'v':
                    return "00000";
                case 'q':
                    return "000";
                case 'w':
                    return "0";
                default:
                    return "";
            }
        }

        private static String greatestDigits(char command) {
            switch (command) {
                case 's':
                    return "299";
                case 'b':
                    return "999";
                case 'v':
                    return "52999";
                case 'q':
                    return "529";
                case 'w':
                    return "5";
                default:
                    return "";
            }
        }
    }

    /** Commands of scripts and turns of simulations. */
    private static final class Script {
        static boolean succeeds(Auction auction, int group) {
            int second = group / 1000 % 10;
            int third = group / 100 % 10;
            int lastTwo = group % 100;
            switch (group / 10000) {
                case 1:
                    return group % 10 == 0 && auction.tryAsk(second, third, lastTwo / 10);
                case 2:
                    return group % 1000 == 0 && auction.tryBid(second);
                case 3:
                    return group % 10000 == 0 && auction.tryClose();
                case 4:
                    return auction.tryValue(second, third, 10 * lastTwo);
                case 5:
                    return third == 0 && auction.trySet(second, lastTwo);
                case 6:
                    return lastTwo == 0 && auction.tryDrop(second, third);
                case 7:
                    return !noKind(second) && auction.price[second] >= group % 1000;
                case 8:
                    return third == 0 && !auction.noBidder(second) && auction.right[second] >= lastTwo;
                case 9:
                    return group % 10000 == 0 && auction.over;
                default:
                    return false;
            }
        }

        static void takeTurn(Auction auction, int r) {
            int n = auction.bidders > 0 ? auction.bidders : 1;
            int b = r / 16 % n;
            int k = r / 128 % KINDS;
            int turn = r % 16;
            if (turn == 0) {
                auction.tryJoin(r / 16 % 20, 1 + r / 512 % 5);
            } else if (turn <= 3) {
                auction.tryValue(b, k, r / 512 % 100);
            } else if (turn <= 6) {
                auction.tryAsk(b, k, r / 512 % 4);
            } else if (turn <= 10) {
                auction.tryBid(b);
            } else if (turn <= 13) {
                auction.tryClose();
            } else {
                auction.tryAdd(b, r / 512 % 3, r / 2048 % 3, r / 8192 % 3, 1 + r / 32768 % 200);
            }
        }
    }
}
