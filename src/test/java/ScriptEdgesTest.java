import java.util.ArrayList;
import java.util.List;

/** Promises 31 and 32, sentence by sentence: scripts and simulations at their edges. */
public final class ScriptEdgesTest {
    /** Two bidders; the second one has the right 5 and the cap 1. */
    private static final String[] OPEN = {"offer 0 9 1", "join 20 9", "join 5 1", "value 0 0 50", "ask 0 1 1"};
    private static final String[] OVER = {
        "join 20 9", "join 5 1", "ask 0 0 2", "ask 1 1 1", "close", "add 0 1 0 0 50", "add 0 0 1 0 60", "add 1 0 0 1 70"
    };

    public static void main(String[] args) {
        numberOfCommands();
        digitsOfScripts();
        order();
        indexOfTheFirst();
        askGroup();
        bidGroup();
        closeGroup();
        valueGroup();
        setGroup();
        dropGroup();
        priceGroup();
        rightGroup();
        overGroup();
        otherGroups();
        whenOver();
        onACopy();
        simulateRanges();
        simulateAlone();
        simulateEachTurn();
        simulateManyTurns();
        simulateOnACopy();
        Check.end();
    }

    private static void numberOfCommands() {
        Runs.run("n is out of range", "runScript 0 0 = BAD", "runScript 4 0 = BAD", "runScript -1 0 = BAD",
                "runScript -2147483648 0 = BAD", "runScript 2147483647 0 = BAD", "runScript 0 -1 = BAD",
                "runScript 4 30000 = BAD", "runScript 4 99999999999999999 = BAD");
        Runs.run("n from 1 to 3", "runScript 1 30000 = NONE", "runScript 2 3000090000 = NONE",
                "runScript 3 300009000090000 = NONE");
    }

    private static void digitsOfScripts() {
        Runs.run("at most 5 digits", "runScript 1 99999 = 0", "runScript 1 100000 = BAD",
                "runScript 1 3000090000 = BAD");
        Runs.run("at most 10 digits", "runScript 2 9999999999 = 0", "runScript 2 10000000000 = BAD",
                "runScript 2 300009000090000 = BAD");
        Runs.run("at most 15 digits", "runScript 3 999999999999999 = 0", "runScript 3 1000000000000000 = BAD",
                "runScript 3 9223372036854775807 = BAD");
        Runs.run("script is negative", "runScript 1 -1 = BAD", "runScript 2 -30000 = BAD", "runScript 3 -1 = BAD",
                "runScript 3 -9223372036854775808 = BAD");
        Runs.run("0 or more digits: no group is 00000", "runScript 1 0 = 0", "runScript 2 0 = 0", "runScript 3 0 = 0");
        Runs.run("with zeros before it, if it has fewer digits", "runScript 1 3000 = 0", "runScript 2 30000 = 0",
                "runScript 3 3000090000 = 0", "runScript 1 9 = 0");
    }

    private static void order() {
        Runs.run("the first command is the highest group", "runScript 2 3000090000 = NONE",
                "runScript 2 9000030000 = 0");
        Runs.run("each one sees what the one before has changed", "runScript 3 300003000090000 = 1",
                "runScript 3 300009000090000 = NONE");
    }

    private static void indexOfTheFirst() {
        Runs.run("the index of the first command that fails", "runScript 3 900009000090000 = 0",
                "runScript 3 300003000030000 = 1", "runScript 3 300009000030000 = 2",
                "runScript 3 300009000090000 = NONE");
        Runs.run("of two", "runScript 2 9000090000 = 0", "runScript 2 3000030000 = 1", "runScript 2 3000090000 = NONE");
        Runs.run("of one", "runScript 1 90000 = 0", "runScript 1 30000 = NONE");
    }

    /** Each group alone, and what is due: -1 for one that succeeds. */
    private static void groups(String sentence, String[] start, String... lines) {
        List<String> all = new ArrayList<>(List.of(start));
        for (String line : lines) {
            String[] parts = line.split(" ");
            all.add("runScript 1 " + Integer.parseInt(parts[0]) + (parts[1].equals("succeeds") ? " = NONE" : " = 0"));
        }
        Runs.run(sentence, all.toArray(new String[0]));
    }

    private static void askGroup() {
        groups("1 b k n 0: ask(b, k, n)", OPEN, "10000 succeeds", "10010 succeeds", "10090 succeeds", "10110 succeeds",
                "10210 succeeds", "11010 succeeds", "10120 succeeds");
        groups("ask would throw: the cap, the supply", OPEN, "11020 fails", "10130 fails", "11120 fails");
        groups("ask of no such bidder or kind", OPEN, "12000 fails", "19000 fails", "10300 fails", "10900 fails",
                "12300 fails");
        groups("another digit where a 0 is written", OPEN, "10001 fails", "10019 fails", "11011 fails");
        groups("ask would throw: the right", new String[] {"join 2 9", "ask 0 0 1", "ask 0 1 1"}, "10010 succeeds",
                "10020 fails", "10120 fails", "10210 fails", "10100 succeeds");
        Runs.run("ask changes the demand", Runs.lines(OPEN, "runScript 3 100101001030000 = NONE",
                "runScript 3 100903000080010 = NONE", "runScript 3 100903000080011 = 2"));
    }

    private static void bidGroup() {
        groups("2 b 0 0 0: bid(b)", OPEN, "20000 succeeds", "21000 succeeds", "22000 fails", "29000 fails");
        groups("another digit where a 0 is written", OPEN, "20100 fails", "20010 fails", "20001 fails", "21111 fails");
        Runs.run("bid changes the demands", Runs.lines(OPEN, "runScript 3 200003000080009 = NONE",
                "runScript 3 200003000080010 = 2", "runScript 3 210003000080002 = 2"));
    }

    private static void closeGroup() {
        groups("3 0 0 0 0: close()", OPEN, "30000 succeeds");
        groups("another digit where a 0 is written", OPEN, "31000 fails", "30100 fails", "30010 fails", "30001 fails");
        Runs.run("close ends the auction", Runs.lines(OPEN, "runScript 2 3000090000 = NONE",
                "runScript 2 3000030000 = 1"));
        Runs.run("close raises the prices", Runs.lines(OPEN, "join 9 9", "ask 0 1 2", "ask 1 1 1",
                "runScript 2 3000071011 = NONE", "runScript 2 3000071012 = 1", "runScript 2 3000030000 = NONE"));
    }

    private static void valueGroup() {
        groups("4 b k x y: value(b, k, 10 * xy)", OPEN, "40000 succeeds", "40299 succeeds", "41001 succeeds",
                "42000 fails", "49000 fails", "40300 fails", "40999 fails");
        valueByTens();
    }

    /** A bid for two lots takes the whole right of 2, so that an ask behind it fails. */
    private static void valueByTens() {
        for (int xy : new int[] {0, 1, 2, 10, 12, 21, 50, 98, 99}) {
            String script = "runScript 3 400" + xy / 10 + xy % 10 + "2000010110";
            Runs.run("a value of 10 * " + xy + " gains nothing at this price", "price 0 " + Math.max(1, 10 * xy),
                    "join 2 2", script + " = NONE");
            if (xy > 0) {
                Runs.run("a value of 10 * " + xy + " gains something below it", "price 0 " + (10 * xy - 1), "join 2 2",
                        script + " = 2");
            }
        }
    }

    private static void setGroup() {
        groups("5 w 0 v v: set(w, vv)", OPEN, "50050 succeeds", "50099 succeeds", "50049 fails", "50000 fails",
                "51001 succeeds", "51050 succeeds", "51000 fails", "51051 fails", "52050 fails", "59050 fails");
        groups("another digit where a 0 is written", OPEN, "50150 fails", "50950 fails", "51101 fails");
        Runs.run("set changes the setting", Runs.lines(OPEN, "ask 0 0 9", "runScript 3 500503000080020 = NONE",
                "runScript 2 3000080011 = 1", "runScript 3 500993000080011 = 2", "runScript 3 500903000080011 = NONE"));
    }

    private static void dropGroup() {
        groups("6 b i 0 0: drop(b, i)", OVER, "60100 succeeds", "60200 succeeds", "61100 succeeds", "60000 fails",
                "60300 fails", "61200 fails", "60900 fails", "62100 fails", "69100 fails");
        groups("another digit where a 0 is written", OVER, "60101 fails", "60110 fails", "61111 fails");
        Runs.run("drop makes numbers smaller", Runs.lines(OVER, "runScript 2 6010060100 = NONE",
                "runScript 2 6020060200 = 1", "runScript 3 601006010060100 = 2"));
        groups("drop without packages", OPEN, "60100 fails", "60000 fails");
    }

    private static void priceGroup() {
        groups("7 k x y z: the price is at least xyz", OPEN, "70000 succeeds", "70009 succeeds", "70010 succeeds",
                "70011 fails", "70999 fails", "72010 succeeds", "72011 fails", "73000 fails", "79000 fails");
        groups("xyz at its most", new String[] {"price 0 999", "price 1 998", "price 2 99999"}, "70999 succeeds", "71999 fails",
                "71998 succeeds", "72999 succeeds", "73000 fails");
    }

    private static void rightGroup() {
        groups("8 b 0 v v: the right is at least vv", OPEN, "80000 succeeds", "80020 succeeds", "80021 fails",
                "81005 succeeds", "81006 fails", "81099 fails", "82000 fails", "89000 fails");
        groups("another digit where a 0 is written", OPEN, "80120 fails", "80900 fails");
        groups("vv at its most", new String[] {"join 99 9", "join 98 9", "join 0 9"}, "80099 succeeds", "81099 fails",
                "82000 succeeds", "82001 fails", "83000 fails");
    }

    private static void overGroup() {
        groups("9 0 0 0 0: not over", OPEN, "90000 fails");
        groups("9 0 0 0 0: over", OVER, "90000 succeeds");
        groups("another digit where a 0 is written", OVER, "91000 fails", "90100 fails", "90010 fails", "90001 fails",
                "99999 fails");
    }

    private static void otherGroups() {
        groups("any other group", OVER, "00000 fails", "00001 fails", "01000 fails", "09999 fails", "00100 fails");
        groups("any other group, without bidders", new String[0], "00000 fails", "05050 fails", "10000 fails",
                "20000 fails", "40000 fails", "60100 fails", "80000 fails");
    }

    private static void whenOver() {
        groups("methods that throw when it is over", OVER, "10000 fails", "10020 fails", "20000 fails", "21000 fails",
                "30000 fails");
        groups("methods that do not", OVER, "40001 succeeds", "50050 succeeds", "51050 succeeds");
    }

    private static void onACopy() {
        Runs.run("on a copy of the state", Runs.lines(OPEN, "runScript 3 200003000090000 = NONE", "about 2 = 0",
                "about 1 = 0", "runScript 3 100904000150050 = NONE", "demand 0 0 = 0", "setting 0 = 100",
                "value 0 0 3 = 50"));
        Runs.run("with all of six bidders", Runs.lines(Six.start(), "runScript 3 653006530065200 = 1",
                "runScript 3 653006520065100 = NONE", "runScript 2 8500680006 = NONE", "runScript 1 80007 = 0",
                Six.due()));
        Runs.run("also if a command fails", Runs.lines(OPEN, "runScript 3 100903000030000 = 2", "demand 0 0 = 0",
                "about 2 = 0"));
        Runs.run("each time from the present state", Runs.lines(OVER, "runScript 2 6110061100 = 1",
                "runScript 1 61100 = NONE", "runScript 1 61100 = NONE"));
    }

    private static void simulateRanges() {
        Runs.run("m is out of range", "simulate 1 0 = BAD", "simulate 1 100 = BAD", "simulate 1 -1 = BAD",
                "simulate 1 -2147483648 = BAD", "simulate 1 2147483647 = BAD");
        Runs.run("m is out of range, when it is over", Runs.lines(OVER, "simulate 0 0 = BAD", "simulate 0 100 = BAD",
                "simulate 0 1 = 3"));
        ClockLots x = new ClockLots();
        long[] seeds = {0, 1, -1, Long.MIN_VALUE, Long.MAX_VALUE, 1L << 33, -1L << 33, 0x7fffffffL, 0x80000000L};
        for (long seed : seeds) {
            for (int m = 1; m <= 99; m += 49) {
                Check.due("simulate(" + seed + ", " + m + ")", x.simulate(seed, m), played(List.of(), seed, m));
            }
        }
    }

    /** One turn each, from seeds of which the first r is known, on an object of the test's own. */
    private static void simulateAlone() {
        Runs.run("no bidders, and a round that ends at once", "simulate " + seedOf(11) + " 1 = 1000",
                "simulate " + seedOf(12) + " 1 = 1000", "simulate " + seedOf(13) + " 1 = 1000");
        Runs.run("no bidders: what would throw is left out", "simulate " + seedOf(1) + " 1 = 0",
                "simulate " + seedOf(4 + 512) + " 1 = 0", "simulate " + seedOf(7) + " 1 = 0",
                "simulate " + seedOf(14 + 512) + " 1 = 0");
        Runs.run("a round that is closed when it is over is left out", "close", "simulate " + seedOf(11) + " 1 = 0");
        Runs.run("rounds before do not count", "join 9 9", "join 9 9", "ask 0 0 2", "ask 1 0 2", "close",
                "simulate " + seedOf(13) + " 1 = 1004", "simulate " + seedOf(1) + " 1 = 4");
        Runs.run("the demands at the end, of all bidders and kinds", "join 9 9", "join 9 9", "ask 0 0 2", "ask 1 1 1",
                "ask 1 2 1", "simulate " + seedOf(1) + " 1 = 4");
        Runs.run("the bidder is r / 16 % n", "join 9 9", "join 9 9", "join 9 9", "value 0 0 20", "value 1 0 11",
                "ask 1 1 1", "value 2 0 11", "ask 2 1 2", "simulate " + seedOf(7) + " 1 = 5",
                "simulate " + seedOf(7 + 16) + " 1 = 4", "simulate " + seedOf(7 + 32) + " 1 = 3",
                "simulate " + seedOf(7 + 48) + " 1 = 5");
        Runs.run("the kind is r / 128 % 3", "offer 0 1 1", "offer 1 2 1", "offer 2 3 1", "join 9 9",
                "simulate " + seedOf(4 + 512 * 3) + " 1 = 0", "simulate " + seedOf(4 + 512 * 3 + 128) + " 1 = 0",
                "simulate " + seedOf(4 + 512 * 3 + 256) + " 1 = 3", "simulate " + seedOf(4 + 512 * 2) + " 1 = 2",
                "simulate " + seedOf(4 + 512 * 2 + 128) + " 1 = 0", "simulate " + seedOf(4 + 512 * 2 + 256) + " 1 = 2");
    }

    private static void simulateEachTurn() {
        List<String> start = List.of("offer 0 3 2", "offer 1 9 1", "price 0 40", "join 12 4", "join 9 2", "join 7 9",
                "value 0 0 60", "value 1 1 30", "value 2 2 90", "ask 0 0 2", "ask 1 0 1", "ask 2 2 1");
        for (int r = 0; r < 1 << 17; r += 37) {
            long seed = seedOf(r);
            Check.due("simulate(" + seed + ", 1) with r = " + r, Runs.made(start).simulate(seed, 1), played(start, seed,
                    1));
            Check.due("simulate(" + seed + ", 3)", Runs.made(start).simulate(seed, 3), played(start, seed, 3));
        }
        Check.due("the greatest r", Runs.made(start).simulate(seedOf(Integer.MAX_VALUE), 1),
                played(start, seedOf(Integer.MAX_VALUE), 1));
    }

    private static void simulateManyTurns() {
        List<String> start = List.of("offer 0 5 2", "offer 1 7 1", "offer 2 3 1", "price 0 35", "price 1 60", "join 30 5");
        for (long seed = 0; seed < 400; seed++) {
            Check.due("simulate(" + seed + ", 99)", Runs.made(start).simulate(seed, 99), played(start, seed, 99));
            Check.due("simulate(" + -seed + ", 50) from a new object", new ClockLots().simulate(-seed, 50),
                    played(List.of(), -seed, 50));
        }
    }

    private static final long FACTOR = 6364136223846793005L;
    private static final long PLUS = 1442695040888963407L;

    /** The seed with which the first r is this one: the turn's multiplication the other way round. */
    private static long seedOf(int r) {
        long inverse = 1;
        for (int i = 0; i < 6; i++) {
            inverse *= 2 - FACTOR * inverse;
        }
        return (((long) r << 33) - PLUS) * inverse;
    }

    /** The turns as calls of the methods on an object of its own, where what throws is left out. */
    private static long played(List<String> start, long seed, int m) {
        ClockLots x = Runs.made(start);
        int before = x.about(1);
        long state = seed;
        for (int i = 0; i < m; i++) {
            state = state * FACTOR + PLUS;
            Runs.answer(x, turn((int) (state >>> 33), Math.max(1, x.about(0))));
        }
        return 1000L * (x.about(1) - before) + x.kind(0, 3) + x.kind(1, 3) + x.kind(2, 3);
    }

    private static String turn(int r, int n) {
        int b = r / 16 % n;
        int k = r / 128 % 3;
        int turn = r % 16;
        if (turn == 0) {
            return "join " + r / 16 % 20 + " " + (1 + r / 512 % 5);
        }
        if (turn <= 3) {
            return "value " + b + " " + k + " " + r / 512 % 100;
        }
        if (turn <= 6) {
            return "ask " + b + " " + k + " " + r / 512 % 4;
        }
        if (turn <= 10) {
            return "bid " + b;
        }
        if (turn <= 13) {
            return "close";
        }
        return "add " + b + " " + r / 512 % 3 + " " + r / 2048 % 3 + " " + r / 8192 % 3 + " " + (1 + r / 32768 % 200);
    }

    private static void simulateOnACopy() {
        Runs.run("on a copy of the state", Runs.lines(OPEN, "simulate 5 99", "simulate -77 99", "simulate 123456789 99",
                "about 0 = 2", "about 1 = 0", "demand 0 1 = 1", "value 0 0 1 = 50"));
        Runs.run("on a copy of the state, when it is over", Runs.lines(OVER, "simulate 5 99 = 3", "simulate -77 99 = 3",
                "about 4 = 3"));
    }
}
