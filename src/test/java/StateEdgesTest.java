/** Promises 6 to 11, sentence by sentence: what there is, at its edges. */
public final class StateEdgesTest {
    private static final String[] SIX = {
        "join 99 9", "join 99 9", "join 99 9", "join 99 9", "join 99 9", "join 99 9"
    };
    /** Two bidders, of which the second one has a package; the auction is over. */
    private static final String[] OVER = {
        "offer 0 3 2", "price 0 20", "join 9 3", "join 8 2", "ask 0 0 1", "ask 1 0 2", "ask 1 1 1", "set 0 50", "close",
        "add 1 1 0 1 55"
    };

    public static void main(String[] args) {
        aboutRange();
        aboutBidders();
        aboutRounds();
        aboutOver();
        aboutScarceKinds();
        aboutPackages();
        aboutCosts();
        kind();
        bidder();
        activity();
        profit();
        demand();
        pack();
        packRange();
        packZero();
        setting();
        Check.end();
    }

    private static void aboutRange() {
        Runs.run("what is not 0 to 5", "about -1 = BAD", "about 6 = BAD", "about -2147483648 = BAD",
                "about 2147483647 = BAD", "about 0 = 0", "about 5 = 0");
        Runs.run("what is not 0 to 5, when it is over", Runs.lines(OVER, "about -1 = BAD", "about 6 = BAD",
                "about 5 = 70"));
    }

    private static void aboutBidders() {
        Runs.run("0: the bidders, none to 6", "about 0 = 0", "join 0 1", "about 0 = 1", "join 0 1", "join 0 1",
                "join 0 1", "join 0 1", "about 0 = 5", "join 0 1", "about 0 = 6", "join 0 1 = NOT_NOW", "about 0 = 6",
                "undo", "about 0 = 5");
    }

    private static void aboutRounds() {
        Runs.run("1: the rounds that were closed so far", "about 1 = 0", "join 9 9", "join 9 9", "ask 0 0 2",
                "ask 1 0 2", "about 1 = 0", "close = 1", "about 1 = 1", "close = 1", "about 1 = 2", "ask 0 0 0",
                "close = 0", "about 1 = 3", "close = NOT_NOW", "about 1 = 3", "undo", "about 1 = 2");
        Runs.run("1: the rounds of an auction without bidders", "close = 0", "about 1 = 1");
    }

    private static void aboutOver() {
        Runs.run("2: 1 if the auction is over, otherwise 0", "join 9 9", "join 9 9", "ask 0 0 2", "ask 1 0 2",
                "about 2 = 0", "close", "about 2 = 0", "ask 1 0 0", "about 2 = 0", "close", "about 2 = 1", "undo",
                "about 2 = 0");
    }

    private static void aboutScarceKinds() {
        Runs.run("3: the kinds for which more is asked for than there is", "offer 0 1 1", "offer 1 2 1", "offer 2 9 1",
                "join 99 9", "join 99 9", "about 3 = 0", "ask 0 0 1", "about 3 = 0", "ask 1 0 1", "about 3 = 1",
                "ask 0 1 1", "ask 1 1 1", "about 3 = 1", "ask 1 1 2", "about 3 = 2", "ask 0 2 9", "about 3 = 2",
                "ask 1 2 1", "about 3 = 3", "ask 0 2 8", "about 3 = 2");
        Runs.run("3: also when it is over: none then", Runs.lines(OVER, "about 3 = 0"));
    }

    private static void aboutPackages() {
        Runs.run("4: the packages of all bidders, without the package 0", Runs.lines(OVER, "about 4 = 1",
                "add 0 1 0 0 20", "about 4 = 2", "add 1 0 1 0 10", "add 1 0 1 0 10", "about 4 = 4", "drop 0 1",
                "about 4 = 3", "drop 1 3", "drop 1 2", "drop 1 1", "about 4 = 0"));
        Runs.run("4: the package 0 does not count", "join 9 9", "ask 0 0 1", "about 4 = 0");
    }

    private static void aboutCosts() {
        Runs.run("5: the sum of the demands times the prices", "price 0 7", "price 1 11", "price 2 13", "join 99 9",
                "join 99 9", "about 5 = 0", "ask 0 0 1", "about 5 = 7", "ask 0 1 2", "about 5 = 29", "ask 1 2 2",
                "about 5 = 55", "ask 1 1 1", "about 5 = 66");
        Runs.run("5: the greatest one", Runs.lines("offer 0 9 1", "offer 1 9 1", "offer 2 9 1", "price 0 99999",
                "price 1 99999", "price 2 99999", SIX, asksForAll(), "about 5 = 16199838"));
    }

    private static String[] asksForAll() {
        String[] lines = new String[18];
        for (int i = 0; i < lines.length; i++) {
            lines[i] = "ask " + i / 3 + " " + i % 3 + " 9";
        }
        return lines;
    }

    private static void kind() {
        Runs.run("there is no such kind", "kind -1 0 = NO_SUCH", "kind 3 0 = NO_SUCH", "kind -2147483648 0 = NO_SUCH",
                "kind 2147483647 0 = NO_SUCH", "kind 0 0 = 2", "kind 2 0 = 2");
        Runs.run("what is not 0 to 3", "kind 0 -1 = BAD", "kind 0 4 = BAD", "kind 2 -2147483648 = BAD",
                "kind 2 2147483647 = BAD", "kind 0 0 = 2", "kind 0 3 = 0");
        Runs.run("no such kind, ahead of what", "kind -1 -1 = NO_SUCH", "kind 3 4 = NO_SUCH", "kind 3 -1 = NO_SUCH");
        Runs.run("0 to 2: supply, points and price at their least and most", "offer 0 1 9", "offer 2 9 1", "price 0 1",
                "price 2 99999", "kind 0 0 = 1", "kind 0 1 = 9", "kind 0 2 = 1", "kind 2 0 = 9", "kind 2 1 = 1",
                "kind 2 2 = 99999", "kind 1 0 = 2", "kind 1 1 = 1", "kind 1 2 = 10");
        Runs.run("3: the sum of the demands, none to all of six", Runs.lines("offer 0 9 1", "offer 1 9 1",
                "offer 2 9 1", SIX, "kind 0 3 = 0", asksForAll(), "kind 0 3 = 54", "kind 1 3 = 54", "kind 2 3 = 54",
                "ask 5 1 0", "kind 1 3 = 45"));
    }

    private static void bidder() {
        Runs.run("there is no such bidder", "bidder 0 0 = NO_SUCH", "join 9 9", "bidder 0 0 = 9",
                "bidder 1 0 = NO_SUCH", "bidder -1 0 = NO_SUCH", "bidder -2147483648 0 = NO_SUCH",
                "bidder 2147483647 0 = NO_SUCH", "join 8 8", "bidder 1 0 = 8", "bidder 2 0 = NO_SUCH", "undo",
                "bidder 1 0 = NO_SUCH");
        Runs.run("there are never more than six", Runs.lines(SIX, "bidder 5 0 = 99", "bidder 6 0 = NO_SUCH"));
        Runs.run("what is not 0 to 4", "join 9 7", "bidder 0 -1 = BAD", "bidder 0 5 = BAD",
                "bidder 0 -2147483648 = BAD", "bidder 0 2147483647 = BAD", "bidder 0 0 = 9", "bidder 0 1 = 7",
                "bidder 0 4 = 0");
        Runs.run("no such bidder, ahead of what", "bidder 0 5 = NO_SUCH", "join 9 9", "bidder -1 -1 = NO_SUCH",
                "bidder 1 5 = NO_SUCH", "bidder 1 -1 = NO_SUCH");
        Runs.run("0 and 1: right and cap at their least and most", "join 0 1", "join 99 9", "bidder 0 0 = 0",
                "bidder 0 1 = 1", "bidder 1 0 = 99", "bidder 1 1 = 9");
        Runs.run("3: its packages, none to 3, without the package 0", Runs.lines(OVER, "bidder 0 3 = 0",
                "bidder 1 3 = 1", "add 1 0 0 1 10", "bidder 1 3 = 2", "add 1 0 0 1 10", "bidder 1 3 = 3",
                "bidder 0 3 = 0", "drop 1 1", "bidder 1 3 = 2"));
    }

    private static void activity() {
        Runs.run("2: the sum, over the kinds, of the points times the demand", "offer 0 9 9", "offer 1 9 1",
                "offer 2 9 2", "join 99 9", "bidder 0 2 = 0", "ask 0 2 1", "bidder 0 2 = 2", "ask 0 1 9",
                "bidder 0 2 = 11", "ask 0 0 9", "bidder 0 2 = 92", "ask 0 2 4", "bidder 0 2 = 98",
                "ask 0 2 5 = NOT_NOW", "bidder 0 2 = 98", "bidder 0 0 = 99");
        Runs.run("2: the greatest one", "offer 0 9 9", "offer 1 9 1", "offer 2 9 1", "join 99 9", "ask 0 0 9",
                "ask 0 1 9", "ask 0 2 9", "bidder 0 2 = 99");
    }

    private static void profit() {
        Runs.run("4: the sum of the demand times the value less the price", "price 1 4", "join 99 9", "join 99 9",
                "value 0 0 25", "value 0 1 1", "value 1 0 99", "ask 0 0 2", "bidder 0 4 = 30", "ask 0 1 1",
                "bidder 0 4 = 27", "ask 0 2 2", "bidder 0 4 = 7", "value 0 2 8", "bidder 0 4 = 23", "bidder 1 4 = 0");
        Runs.run("4: at the price there is none", "join 9 9", "value 0 0 10", "ask 0 0 2", "bidder 0 4 = 0");
        String[] all = Runs.lines("offer 0 9 1", "offer 1 9 1", "offer 2 9 1", "join 99 9", "ask 0 0 9", "ask 0 1 9",
                "ask 0 2 9", "price 0 99999", "price 1 99999", "price 2 99999");
        Runs.run("4: the least one", Runs.lines(all, "bidder 0 4 = -2699973"));
        Runs.run("4: the greatest one", Runs.lines(all, "price 0 1", "price 1 1", "price 2 1", "value 0 0 99999",
                "value 0 1 99999", "value 0 2 99999", "bidder 0 4 = 2699946"));
    }

    private static void demand() {
        Runs.run("there is no such bidder", "demand 0 0 = NO_SUCH", "join 9 9", "demand 0 0 = 0",
                "demand 1 0 = NO_SUCH", "demand -1 0 = NO_SUCH", "demand -2147483648 0 = NO_SUCH",
                "demand 2147483647 0 = NO_SUCH");
        Runs.run("there is no such kind", "join 9 9", "demand 0 -1 = NO_SUCH", "demand 0 3 = NO_SUCH",
                "demand 0 -2147483648 = NO_SUCH", "demand 0 2147483647 = NO_SUCH", "demand 0 2 = 0");
        Runs.run("neither of them", "demand 0 3 = NO_SUCH", "demand -1 -1 = NO_SUCH");
        Runs.run("what b asks for of this kind", "offer 2 9 1", "join 99 9", "join 99 9", "ask 1 2 9", "ask 0 1 1",
                "demand 1 2 = 9", "demand 0 1 = 1", "demand 0 0 = 0", "demand 0 2 = 0", "demand 1 1 = 0");
        Runs.run("the demands when it is over", Runs.lines(OVER, "demand 0 0 = 1", "demand 1 0 = 2", "demand 1 1 = 1"));
    }

    private static void pack() {
        Runs.run("there is no such bidder", "pack 0 0 0 = NO_SUCH", "join 9 9", "pack 0 0 0 = 0",
                "pack 1 0 0 = NO_SUCH", "pack -1 0 0 = NO_SUCH", "pack -2147483648 0 0 = NO_SUCH",
                "pack 2147483647 0 0 = NO_SUCH");
        Runs.run("there is no such package", Runs.lines(OVER, "pack 0 1 0 = NO_SUCH", "pack 0 -1 0 = NO_SUCH",
                "pack 1 1 0 = 1", "pack 1 2 0 = NO_SUCH", "pack 1 -2147483648 0 = NO_SUCH",
                "pack 1 2147483647 0 = NO_SUCH", "add 1 0 1 0 10", "add 1 0 1 0 11", "pack 1 3 3 = 11",
                "pack 1 4 0 = NO_SUCH", "drop 1 1", "pack 1 3 0 = NO_SUCH"));
        Runs.run("the greatest value and lots of a package", "offer 2 9 1", "price 2 1", "join 99 9", "ask 0 2 9",
                "close", "add 0 0 0 9 999999", "add 0 0 0 1 1", "pack 0 1 2 = 9", "pack 0 1 3 = 999999",
                "pack 0 2 2 = 1", "pack 0 2 3 = 1");
    }

    private static void packRange() {
        Runs.run("what is not 0 to 3", Runs.lines(OVER, "pack 1 1 -1 = BAD", "pack 1 1 4 = BAD",
                "pack 0 0 -2147483648 = BAD", "pack 0 0 2147483647 = BAD", "pack 1 1 0 = 1", "pack 1 1 1 = 0",
                "pack 1 1 2 = 1", "pack 1 1 3 = 55"));
        Runs.run("no such bidder or package, ahead of what", Runs.lines(OVER, "pack 2 0 4 = NO_SUCH",
                "pack -1 0 -1 = NO_SUCH", "pack 1 2 4 = NO_SUCH", "pack 1 -1 -1 = NO_SUCH"));
    }

    private static void packZero() {
        Runs.run("the package 0 is always there, perhaps with no lots", "join 9 9", "pack 0 0 0 = 0", "pack 0 0 1 = 0",
                "pack 0 0 2 = 0", "pack 0 0 3 = 0");
        Runs.run("the package 0 is its demands, with the sum of their prices", "price 1 70", "join 9 9", "ask 0 0 2",
                "ask 0 1 1", "pack 0 0 0 = 2", "pack 0 0 1 = 1", "pack 0 0 2 = 0", "pack 0 0 3 = 90", "price 0 11",
                "pack 0 0 3 = 92", "close", "pack 0 0 3 = 92");
        Runs.run("the package 0 costs what its lots cost behind a round", "join 9 9", "join 9 9", "ask 0 0 2",
                "ask 1 0 1", "pack 0 0 3 = 20", "close", "pack 0 0 3 = 22");
        Runs.run("the package 0 does not go by drop", Runs.lines(OVER, "drop 1 0 = NO_SUCH", "drop 1 1",
                "pack 1 0 0 = 2"));
    }

    private static void setting() {
        Runs.run("what is out of range", "setting -1 = BAD", "setting 2 = BAD", "setting -2147483648 = BAD",
                "setting 2147483647 = BAD");
        Runs.run("each of the settings", "set 0 50", "set 1 1", "setting 0 = 50", "setting 1 = 1", "set 0 100",
                "set 1 50", "setting 0 = 100", "setting 1 = 50");
    }
}
