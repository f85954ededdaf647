import java.util.ArrayList;
import java.util.LinkedList;
import java.util.List;

/** The document once more, in the slowest and plainest form: everything is looked through, every state is a copy. */
final class Model {
    private static final class Pack {
        final int[] lots;
        final int worth;

        Pack(int[] lots, int worth) {
            this.lots = lots;
            this.worth = worth;
        }
    }

    private static final class Bidder {
        int right;
        int cap;
        int[] values = new int[3];
        int[] demands = new int[3];
        List<Pack> packs = new ArrayList<>();
    }

    private static final class State {
        int[] supply = {2, 2, 2};
        int[] points = {1, 1, 1};
        int[] price = {10, 10, 10};
        int[] settings = {100, 10};
        List<Bidder> bidders = new ArrayList<>();
        int rounds;
        boolean over;

        State copy() {
            State s = new State();
            s.supply = supply.clone();
            s.points = points.clone();
            s.price = price.clone();
            s.settings = settings.clone();
            s.rounds = rounds;
            s.over = over;
            for (Bidder b : bidders) {
                Bidder c = new Bidder();
                c.right = b.right;
                c.cap = b.cap;
                c.values = b.values.clone();
                c.demands = b.demands.clone();
                c.packs = new ArrayList<>(b.packs);
                s.bidders.add(c);
            }
            return s;
        }
    }

    private State s = new State();
    private final LinkedList<State> remembered = new LinkedList<>();
    private State[] slots = new State[2];
    private String text = "";

    private static void such(boolean there) {
        if (!there) {
            throw new IndexOutOfBoundsException();
        }
    }

    private static void range(int n, int low, int high) {
        if (n < low || n > high) {
            throw new IllegalArgumentException();
        }
    }

    private static void now(boolean allowed) {
        if (!allowed) {
            throw new IllegalStateException();
        }
    }

    private void suchBidder(int b) {
        such(b >= 0 && b < s.bidders.size());
    }

    private static void suchKind(int k) {
        such(k >= 0 && k < 3);
    }

    private void remember() {
        remembered.addLast(s.copy());
        if (remembered.size() > 14) {
            remembered.removeFirst();
        }
    }

    int append(int c) {
        range(c, 0, 255);
        now(text.length() < 120);
        text += (char) c;
        return text.length();
    }

    int clearText() {
        int n = text.length();
        text = "";
        return n;
    }

    private static final String[] FORMS = {
        "s[0-2][1-9][1-9]", "b[0-9][0-9][1-9]", "v[0-5][0-2][0-9][0-9][0-9]", "q[0-5][0-2][0-9]", "w[0-5]", "c"
    };

    /** The shortest start of the text that starts no auction ends with the wrong character. */
    int errorPosition() {
        for (int n = 1; n <= text.length(); n++) {
            if (!startsAnAuction(text.substring(0, n))) {
                return n - 1;
            }
        }
        return text.matches("L(" + String.join("|", FORMS) + ")*") ? -1 : text.length();
    }

    private static boolean startsAnAuction(String t) {
        StringBuilder starts = new StringBuilder();
        for (String form : FORMS) {
            String[] places = form.split("(?<=\\])|(?<=^.)");
            String start = "";
            for (int i = 0; i < places.length - 1; i++) {
                start += places[i];
                starts.append('|').append(start);
            }
        }
        return t.matches("L(" + String.join("|", FORMS) + ")*(" + starts.substring(1) + ")?");
    }

    int load() {
        now(errorPosition() == -1);
        s = new State();
        slots = new State[2];
        int left = 0;
        int at = 1;
        while (at < text.length()) {
            int end = at + 1;
            while (end < text.length() && Character.isDigit(text.charAt(end))) {
                end++;
            }
            String command = text.substring(at, end);
            at = end;
            if (Check.outcome(() -> command(command)) <= -1000001) {
                left++;
            }
        }
        remembered.clear();
        return left;
    }

    private static int number(String t, int from, int to) {
        return Integer.parseInt(t.substring(from, to));
    }

    private int command(String t) {
        switch (t.charAt(0)) {
            case 's':
                return offer(number(t, 1, 2), number(t, 2, 3), number(t, 3, 4));
            case 'b':
                return join(number(t, 1, 3), number(t, 3, 4));
            case 'v':
                return value(number(t, 1, 2), number(t, 2, 3), number(t, 3, 6));
            case 'q':
                return ask(number(t, 1, 2), number(t, 2, 3), number(t, 3, 4));
            case 'w':
                return bid(number(t, 1, 2));
            default:
                return close();
        }
    }

    int about(int what) {
        range(what, 0, 5);
        int packs = 0;
        int scarce = 0;
        int costs = 0;
        for (Bidder b : s.bidders) {
            packs += b.packs.size();
            costs += cost(b.demands);
        }
        for (int k = 0; k < 3; k++) {
            scarce += demands(k) > s.supply[k] ? 1 : 0;
        }
        return new int[] {s.bidders.size(), s.rounds, s.over ? 1 : 0, scarce, packs, costs}[what];
    }

    private int demands(int k) {
        return s.bidders.stream().mapToInt(b -> b.demands[k]).sum();
    }

    private int cost(int[] lots) {
        return lots[0] * s.price[0] + lots[1] * s.price[1] + lots[2] * s.price[2];
    }

    private int points(int[] lots) {
        return lots[0] * s.points[0] + lots[1] * s.points[1] + lots[2] * s.points[2];
    }

    private int profit(Bidder b, int[] lots) {
        int sum = -cost(lots);
        for (int k = 0; k < 3; k++) {
            sum += lots[k] * b.values[k];
        }
        return sum;
    }

    int kind(int k, int what) {
        suchKind(k);
        range(what, 0, 3);
        return new int[] {s.supply[k], s.points[k], s.price[k], demands(k)}[what];
    }

    int bidder(int b, int what) {
        suchBidder(b);
        range(what, 0, 4);
        Bidder one = s.bidders.get(b);
        return new int[] {one.right, one.cap, points(one.demands), one.packs.size(), profit(one, one.demands)}[what];
    }

    int demand(int b, int k) {
        suchBidder(b);
        suchKind(k);
        return s.bidders.get(b).demands[k];
    }

    private List<Pack> options(int b) {
        List<Pack> all = new ArrayList<>();
        all.add(new Pack(s.bidders.get(b).demands, cost(s.bidders.get(b).demands)));
        all.addAll(s.bidders.get(b).packs);
        return all;
    }

    int pack(int b, int i, int what) {
        suchBidder(b);
        such(i >= 0 && i < options(b).size());
        range(what, 0, 3);
        Pack p = options(b).get(i);
        return what == 3 ? p.worth : p.lots[what];
    }

    int setting(int what) {
        range(what, 0, 1);
        return s.settings[what];
    }

    int offer(int k, int supply, int points) {
        suchKind(k);
        range(supply, 1, 9);
        range(points, 1, 9);
        now(s.rounds == 0 && s.bidders.isEmpty());
        remember();
        int before = s.supply[k];
        s.supply[k] = supply;
        s.points[k] = points;
        return before;
    }

    int price(int k, int price) {
        suchKind(k);
        range(price, 1, 99999);
        now(s.rounds == 0);
        remember();
        int before = s.price[k];
        s.price[k] = price;
        return before;
    }

    int join(int right, int cap) {
        range(right, 0, 99);
        range(cap, 1, 9);
        now(s.bidders.size() < 6 && s.rounds == 0);
        remember();
        Bidder b = new Bidder();
        b.right = right;
        b.cap = cap;
        s.bidders.add(b);
        return s.bidders.size() - 1;
    }

    int value(int b, int k, int value) {
        suchBidder(b);
        suchKind(k);
        range(value, 0, 99999);
        remember();
        int before = s.bidders.get(b).values[k];
        s.bidders.get(b).values[k] = value;
        return before;
    }

    int ask(int b, int k, int n) {
        suchBidder(b);
        suchKind(k);
        range(n, 0, 9);
        Bidder one = s.bidders.get(b);
        int[] then = one.demands.clone();
        then[k] = n;
        now(!s.over && n <= one.cap && n <= s.supply[k] && points(then) <= one.right);
        remember();
        one.demands = then;
        return points(then);
    }

    private int[] wish(int b) {
        Bidder one = s.bidders.get(b);
        int[] best = null;
        for (int a0 = 0; a0 <= Math.min(one.cap, s.supply[0]); a0++) {
            for (int a1 = 0; a1 <= Math.min(one.cap, s.supply[1]); a1++) {
                for (int a2 = 0; a2 <= Math.min(one.cap, s.supply[2]); a2++) {
                    int[] lots = {a0, a1, a2};
                    if (points(lots) <= one.right && (best == null || profit(one, lots) > profit(one, best))) {
                        best = lots;
                    }
                }
            }
        }
        return best;
    }

    int bid(int b) {
        suchBidder(b);
        now(!s.over);
        remember();
        s.bidders.get(b).demands = wish(b);
        return bidder(b, 4);
    }

    int close() {
        now(!s.over);
        remember();
        int rising = about(3);
        for (Bidder b : s.bidders) {
            b.right = Math.min(b.right, points(b.demands) * 100 / s.settings[0]);
        }
        for (int k = 0; k < 3; k++) {
            if (demands(k) > s.supply[k]) {
                s.price[k] = Math.min(99999, s.price[k] + Math.max(1, s.price[k] * s.settings[1] / 100));
            }
        }
        s.rounds++;
        s.over = rising == 0;
        return rising;
    }

    int add(int b, int a0, int a1, int a2, int value) {
        suchBidder(b);
        range(a0, 0, 9);
        range(a1, 0, 9);
        range(a2, 0, 9);
        range(value, 1, 999999);
        Bidder one = s.bidders.get(b);
        int[] lots = {a0, a1, a2};
        now(s.over && one.packs.size() < 3 && a0 + a1 + a2 > 0 && points(lots) <= one.right && value >= cost(lots));
        for (int k = 0; k < 3; k++) {
            now(lots[k] <= one.cap && lots[k] <= s.supply[k]);
        }
        remember();
        one.packs.add(new Pack(lots, value));
        return one.packs.size();
    }

    int drop(int b, int i) {
        suchBidder(b);
        such(i >= 1 && i <= s.bidders.get(b).packs.size());
        remember();
        s.bidders.get(b).packs.remove(i - 1);
        return s.bidders.get(b).packs.size();
    }

    int set(int what, int v) {
        range(what, 0, 1);
        range(v, what == 0 ? 50 : 1, what == 0 ? 100 : 50);
        remember();
        int before = s.settings[what];
        s.settings[what] = v;
        return before;
    }

    int undo() {
        now(!remembered.isEmpty());
        s = remembered.removeLast();
        return remembered.size();
    }

    /** The best assignment as one number for each bidder, all written out as numbers of base 5, the first one first. */
    private int[] assignment(int without, int[] supply) {
        int n = s.bidders.size();
        int[] best = null;
        for (int code = 0; code < Math.pow(5, n); code++) {
            int[] picks = new int[n];
            int rest = code;
            for (int b = n - 1; b >= 0; b--) {
                picks[b] = rest % 5 - 1;
                rest /= 5;
            }
            if (fits(picks, without, supply) && (best == null || worth(picks) > worth(best))) {
                best = picks;
            }
        }
        return best;
    }

    private boolean fits(int[] picks, int without, int[] supply) {
        int[] taken = new int[3];
        for (int b = 0; b < picks.length; b++) {
            if (picks[b] >= 0 && (b == without || picks[b] > s.bidders.get(b).packs.size())) {
                return false;
            }
            for (int k = 0; k < 3 && picks[b] >= 0; k++) {
                taken[k] += pack(b, picks[b], k);
            }
        }
        return taken[0] <= supply[0] && taken[1] <= supply[1] && taken[2] <= supply[2];
    }

    private int worth(int[] picks) {
        int sum = 0;
        for (int b = 0; b < picks.length; b++) {
            sum += picks[b] < 0 ? 0 : pack(b, picks[b], 3);
        }
        return sum;
    }

    int best() {
        return worth(assignment(-1, s.supply));
    }

    int gets(int b) {
        suchBidder(b);
        return assignment(-1, s.supply)[b];
    }

    int pays(int b) {
        suchBidder(b);
        int[] picks = assignment(-1, s.supply);
        picks[b] = -1;
        return worth(assignment(b, s.supply)) - worth(picks);
    }

    int oneMore(int k) {
        suchKind(k);
        int[] more = s.supply.clone();
        more[k]++;
        return worth(assignment(-1, more)) - best();
    }

    int leastMissed() {
        int least = -1;
        for (int b = 0; b < s.bidders.size(); b++) {
            if (least < 0 || worth(assignment(b, s.supply)) > worth(assignment(least, s.supply))) {
                least = b;
            }
        }
        return least;
    }

    int wouldAsk(int b, int k) {
        suchBidder(b);
        suchKind(k);
        return wish(b)[k];
    }

    private Model copy() {
        Model m = new Model();
        m.s = s.copy();
        return m;
    }

    private Model end() {
        Model m = copy();
        while (!m.s.over && m.s.rounds - s.rounds < 200) {
            for (int b = 0; b < m.s.bidders.size(); b++) {
                m.bid(b);
            }
            m.close();
        }
        return m;
    }

    int roundsLeft() {
        Model m = end();
        return m.s.over ? m.s.rounds - s.rounds : -1;
    }

    int endPrice(int k) {
        suchKind(k);
        return end().s.price[k];
    }

    int runScript(int n, long script) {
        range(n, 1, 3);
        if (script < 0 || Long.toString(script).length() > 5 * n) {
            throw new IllegalArgumentException();
        }
        String digits = ("000000000000000" + script).substring(Long.toString(script).length() + 15 - 5 * n);
        Model m = copy();
        for (int i = 0; i < n; i++) {
            String group = digits.substring(5 * i, 5 * i + 5);
            if (Check.outcome(() -> m.group(group) ? 1 : -1000001) <= -1000001) {
                return i;
            }
        }
        return -1;
    }

    private boolean group(String g) {
        int b = number(g, 1, 2);
        int k = number(g, 2, 3);
        if (g.matches("1...0")) {
            ask(b, k, number(g, 3, 4));
        } else if (g.matches("2.000")) {
            bid(b);
        } else if (g.equals("30000")) {
            close();
        } else if (g.matches("4....")) {
            value(b, k, 10 * number(g, 3, 5));
        } else if (g.matches("5.0..")) {
            set(b, number(g, 3, 5));
        } else if (g.matches("6..00")) {
            drop(b, k);
        } else if (g.matches("7....")) {
            return kind(b, 2) >= number(g, 2, 5);
        } else if (g.matches("8.0..")) {
            return bidder(b, 0) >= number(g, 3, 5);
        } else {
            return g.equals("90000") && s.over;
        }
        return true;
    }

    int simulate(long seed, int turns) {
        range(turns, 1, 99);
        Model m = copy();
        long x = seed;
        for (int i = 0; i < turns; i++) {
            x = x * 6364136223846793005L + 1442695040888963407L;
            int r = (int) (x >>> 33);
            Check.outcome(() -> m.turn(r));
        }
        return 1000 * (m.s.rounds - s.rounds) + m.demands(0) + m.demands(1) + m.demands(2);
    }

    private int turn(int r) {
        int b = r / 16 % (s.bidders.isEmpty() ? 1 : s.bidders.size());
        int k = r / 128 % 3;
        int turn = r % 16;
        if (turn >= 14) {
            return add(b, r / 512 % 3, r / 2048 % 3, r / 8192 % 3, 1 + r / 32768 % 200);
        }
        if (turn >= 11) {
            return close();
        }
        if (turn >= 7) {
            return bid(b);
        }
        if (turn >= 4) {
            return ask(b, k, r / 512 % 4);
        }
        return turn >= 1 ? value(b, k, r / 512 % 100) : join(r / 16 % 20, 1 + r / 512 % 5);
    }

    int save(int slot) {
        such(slot == 0 || slot == 1);
        slots[slot] = s.copy();
        return s.rounds;
    }

    int restore(int slot) {
        such(slot == 0 || slot == 1);
        now(slots[slot] != null);
        s = slots[slot].copy();
        remembered.clear();
        return s.rounds;
    }
}
