import java.util.ArrayList;
import java.util.List;

/**
 * Promises 2 to 34: each method in several situations, with every mixture of arguments that are too small, least, most and
 * too great. Which exception comes, and which one comes first, is what the model says; a call that throws changes nothing.
 */
public final class RefusedTest {
    private static final String[] FRESH = {};
    private static final String[] OPEN = {
        "offer 0 3 2", "offer 1 4 1", "offer 2 1 5", "price 2 20", "join 14 3", "join 9 2", "value 0 0 40", "value 1 1 33",
        "ask 0 0 2", "ask 0 1 3", "save 0", "ask 1 0 2", "write Lb992c"
    };
    private static final String[] GOING = Runs.lines(OPEN, "close");
    private static final String[] OVER = Runs.lines(GOING, "ask 1 0 1", "close", "add 0 1 0 0 50", "add 0 2 1 0 80",
            "add 0 0 3 0 31", "add 1 1 0 0 12");
    private static final String[] CLOSED = {"close", "save 1"};
    private static final String[] FULL = Runs.lines("offer 0 9 1", "join 99 9", "join 0 1", "join 99 1", "join 9 9", "join 50 5",
            "join 1 9", "ask 0 0 9", "ask 5 2 1", Runs.times(120, "append 76"));
    private static final String[][] SITUATIONS = {FRESH, OPEN, GOING, OVER, CLOSED, FULL};

    private static final String MIN = "-2147483648";
    private static final String MAX = "2147483647";
    private static final String[] KINDS = {MIN, "-1", "0", "2", "3", MAX};
    private static final String[] BIDDERS = {MIN, "-1", "0", "1", "2", "5", "6", MAX};
    private static final String[] WHATS = {MIN, "-1", "0", "1", "2", "3", "4", "5", "6", MAX};
    private static final String[] FROM_1_TO_9 = {MIN, "0", "1", "9", "10", MAX};
    private static final String[] SLOTS = {MIN, "-1", "0", "1", "2", MAX};

    public static void main(String[] args) {
        for (String[] situation : SITUATIONS) {
            List<String> start = Runs.expanded(List.of(situation));
            long undone = Runs.answer(Runs.made(start), "undo");
            List<Long> picture = Check.picture(Runs.made(start));
            for (String call : calls()) {
                hold(start, call, picture, undone);
            }
        }
        Check.end();
    }

    private static void hold(List<String> start, String call, List<Long> picture, long undone) {
        ClockLots x = Runs.made(start);
        long got = Runs.answer(x, call);
        String what = call + " behind " + start;
        Check.due(what, got, Runs.answer(Runs.modelled(start), call));
        if (Runs.thrown(got)) {
            Check.dueSame("what there is behind " + what, Check.picture(x), picture);
            Check.due("undo behind " + what, Runs.answer(x, "undo"), undone);
        }
    }

    private static List<String> calls() {
        List<String> all = new ArrayList<>(List.of("clearText", "errorPosition", "load", "close", "undo", "best", "leastMissed",
                "roundsLeft"));
        mixtures(all, "append", new String[] {MIN, "-1", "0", "76", "255", "256", MAX});
        mixtures(all, "about", WHATS);
        mixtures(all, "kind", KINDS, WHATS);
        mixtures(all, "bidder", BIDDERS, WHATS);
        mixtures(all, "demand", BIDDERS, KINDS);
        mixtures(all, "pack", BIDDERS, WHATS, WHATS);
        mixtures(all, "setting", WHATS);
        mixtures(all, "offer", KINDS, FROM_1_TO_9, FROM_1_TO_9);
        mixtures(all, "price", KINDS, new String[] {MIN, "-1", "0", "1", "99999", "100000", MAX});
        mixtures(all, "join", new String[] {MIN, "-1", "0", "99", "100", MAX}, FROM_1_TO_9);
        mixtures(all, "value", BIDDERS, KINDS, new String[] {MIN, "-1", "0", "99999", "100000", MAX});
        mixtures(all, "ask", BIDDERS, KINDS, new String[] {MIN, "-1", "0", "1", "2", "3", "4", "9", "10", MAX});
        mixtures(all, "bid", BIDDERS);
        String[] lots = {"-1", "0", "1", "3", "9", "10"};
        mixtures(all, "add", new String[] {"-1", "0", "1", "2"}, lots, lots, lots, new String[] {"0", "1", "60", "999999",
            "1000000"});
        mixtures(all, "add", BIDDERS, new String[] {MIN, "1", MAX}, new String[] {MIN, "0", MAX}, new String[] {MIN, "0", MAX},
                new String[] {MIN, "50", MAX});
        mixtures(all, "drop", BIDDERS, WHATS);
        mixtures(all, "set", WHATS, new String[] {MIN, "-1", "0", "1", "49", "50", "51", "100", "101", MAX});
        for (String method : new String[] {"gets", "pays"}) {
            mixtures(all, method, BIDDERS);
        }
        mixtures(all, "oneMore", KINDS);
        mixtures(all, "wouldAsk", BIDDERS, KINDS);
        mixtures(all, "endPrice", KINDS);
        mixtures(all, "runScript", new String[] {MIN, "-1", "0", "1", "2", "3", "4", MAX}, new String[] {
            "-9223372036854775808", "-1", "0", "30000", "99999", "100000", "3000090000", "9999999999", "10000000000",
            "300009000090000", "999999999999999", "1000000000000000", "9223372036854775807"});
        mixtures(all, "simulate", new String[] {"-9223372036854775808", "-1", "0", "9223372036854775807"},
                new String[] {MIN, "-1", "0", "1", "99", "100", MAX});
        mixtures(all, "save", SLOTS);
        mixtures(all, "restore", SLOTS);
        return all;
    }

    private static void mixtures(List<String> all, String method, String[]... arguments) {
        List<String> some = List.of(method);
        for (String[] one : arguments) {
            List<String> more = new ArrayList<>();
            for (String start : some) {
                for (String argument : one) {
                    more.add(start + " " + argument);
                }
            }
            some = more;
        }
        all.addAll(some);
    }
}
