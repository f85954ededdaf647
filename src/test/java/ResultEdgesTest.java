/** Promises 23 to 30, sentence by sentence: the best assignment, and what would be, at the edges. */
public final class ResultEdgesTest {
    /** Each of three bidders asks for the only lot of one kind, and may have packages of more. */
    private static final String[] THREE = {
        "offer 0 1 1", "offer 1 1 1", "offer 2 1 1", "set 0 50", "join 9 3", "join 9 3", "join 9 3", "ask 0 0 1",
        "ask 1 1 1", "ask 2 2 1", "close"
    };
    /** The same, but the kind 0 has 2 points, so that the bidder 0 may have a package of all three lots. */
    private static final String[] WIDE = {
        "offer 0 1 2", "offer 1 1 1", "offer 2 1 1", "set 0 50", "join 9 3", "join 9 3", "join 9 3", "ask 0 0 1",
        "ask 1 1 1", "ask 2 2 1", "close"
    };
    /** Each of six bidders asks for one of nine lots. */
    private static final String[] SIX = {
        "offer 0 9 1", "offer 1 9 1", "offer 2 9 1", "price 0 1", "price 1 1", "price 2 1", "join 99 9", "join 99 9",
        "join 99 9", "join 99 9", "join 99 9", "join 99 9", "ask 0 0 1", "ask 1 0 1", "ask 2 0 1", "ask 3 0 1", "ask 4 0 1",
        "ask 5 0 1", "close"
    };

    public static void main(String[] args) {
        best();
        bestOfThoseWhoAreThere();
        bestWithinSupplies();
        getsTies();
        getsRefused();
        pays();
        paysRefused();
        oneMore();
        oneMoreRefused();
        leastMissed();
        wouldAsk();
        wouldAskRefused();
        roundsLeft();
        twoHundred();
        endPrice();
        endPriceRefused();
        Check.end();
    }

    private static void best() {
        Runs.run("without bidders", "best = 0", "close", "best = 0");
        Runs.run("bidders who ask for nothing", "join 9 9", "join 9 9", "best = 0", "close", "best = 0");
        Runs.run("also while the auction is not over", "join 9 9", "ask 0 0 2", "best = 20", "price 0 30", "best = 60",
                "close", "best = 60");
        Runs.run("one of its packages, not all of them", Runs.lines(THREE, "best = 30", "add 0 1 0 0 11", "best = 31",
                "add 0 1 0 0 13", "add 0 1 0 0 12", "best = 33", "drop 0 2", "best = 32"));
        Runs.run("the greatest sum of values", Runs.lines(SIX, "best = 6", "add 0 1 0 0 999999", "add 1 1 0 0 999999",
                "add 2 1 0 0 999999", "add 3 1 0 0 999999", "add 4 1 0 0 999999", "add 5 1 0 0 999999",
                "best = 5999994"));
        Runs.run("a package that leaves nothing for the others", Runs.lines(WIDE, "add 0 1 1 1 30", "best = 30",
                "gets 0 = 0", "gets 1 = 0", "drop 0 1", "add 0 1 1 1 31", "best = 31", "gets 0 = 1", "gets 1 = NONE",
                "gets 2 = NONE"));
    }

    private static void bestOfThoseWhoAreThere() {
        Runs.run("what a bidder had before load", "join 9 9", "ask 0 0 2", "best = 20", "write L", "load", "best = 0",
                "oneMore 0 = 0", "leastMissed = NONE", "join 9 9", "best = 0");
        Runs.run("what a bidder had before undo", "join 9 9", "ask 0 0 2", "best = 20", "undo", "best = 0", "undo",
                "best = 0", "leastMissed = NONE");
        Runs.run("packages before load", Runs.lines(SIX, "add 5 1 0 0 500", "best = 505", "write Lb999q001", "load",
                "best = 10", "pays 0 = 0", "leastMissed = 0"));
    }

    private static void bestWithinSupplies() {
        Runs.run("of each kind not more than the supply", "join 9 9", "join 9 9", "ask 0 0 2", "ask 1 0 1", "best = 20",
                "gets 0 = 0", "gets 1 = NONE", "pays 0 = 10", "pays 1 = 0");
        Runs.run("of each kind just the supply", "join 9 9", "join 9 9", "ask 0 0 1", "ask 1 0 1", "best = 20",
                "gets 0 = 0", "gets 1 = 0");
        for (int k = 0; k < 3; k++) {
            Runs.run("the kind " + k + " alone may be too little", "join 9 9", "join 9 9", "ask 0 0 1", "ask 0 1 1",
                    "ask 0 2 1", "ask 1 0 1", "ask 1 1 1", "ask 1 2 1", "best = 60", "ask 1 " + k + " 2", "best = 40",
                    "gets 0 = NONE", "gets 1 = 0");
        }
        Runs.run("the package 0 has what was asked for", Runs.lines(THREE, "gets 0 = 0", "gets 1 = 0", "gets 2 = 0"));
    }

    private static void getsTies() {
        Runs.run("it gets nothing", "join 9 9", "gets 0 = NONE", "ask 0 0 1", "gets 0 = 0", "ask 0 0 0",
                "gets 0 = NONE");
        Runs.run("of several the one in which the bidder 0 gets nothing", "join 9 9", "join 9 9", "ask 0 0 2",
                "ask 1 0 2", "best = 20", "gets 0 = NONE", "gets 1 = 0");
        Runs.run("or else the lower package: 0 ahead of 1", Runs.lines(THREE, "add 0 1 0 0 10", "gets 0 = 0"));
        Runs.run("or else the lower package: 1 ahead of 2 and 3", Runs.lines(THREE, "add 0 1 0 0 20", "add 0 1 0 0 20",
                "add 0 1 0 0 20", "gets 0 = 1"));
        Runs.run("or else the lower package: 2 ahead of 3", Runs.lines(THREE, "add 0 1 0 0 19", "add 0 1 0 0 20",
                "add 0 1 0 0 20", "gets 0 = 2"));
        Runs.run("a greater sum ahead of the lower package", Runs.lines(THREE, "add 0 1 0 0 19", "add 0 1 0 0 20",
                "add 0 1 0 0 21", "gets 0 = 3"));
        Runs.run("then the bidder 1: nothing", "join 9 9", "join 9 9", "join 9 9", "ask 0 1 1", "ask 1 0 2",
                "ask 2 0 2", "gets 0 = 0", "gets 1 = NONE", "gets 2 = 0");
        Runs.run("then the bidder 1: its lower package", Runs.lines(THREE, "add 1 0 1 0 44", "add 1 0 1 0 44",
                "gets 0 = 0", "gets 1 = 1", "gets 2 = 0"));
        Runs.run("the bidder 0 ahead of the bidder 1", Runs.lines(THREE, "add 0 1 1 0 50", "add 1 1 1 0 50",
                "best = 60", "gets 0 = NONE", "gets 1 = 1", "gets 2 = 0"));
        Runs.run("the lower package of the bidder 0, though the bidder 1 gets more then", Runs.lines(THREE,
                "add 0 1 0 0 15", "add 0 1 1 0 25", "best = 35", "gets 0 = 1", "gets 1 = 0", "gets 2 = 0"));
        Runs.run("then the bidder 5", "join 9 9", "join 9 9", "join 9 9", "join 9 9", "join 9 9", "join 9 9",
                "ask 4 2 2", "ask 5 2 2", "gets 0 = NONE", "gets 3 = NONE", "gets 4 = NONE", "gets 5 = 0");
    }

    private static void getsRefused() {
        Runs.run("there is no such bidder", "gets 0 = NO_SUCH", "join 9 9", "gets 1 = NO_SUCH", "gets -1 = NO_SUCH",
                "gets -2147483648 = NO_SUCH", "gets 2147483647 = NO_SUCH", "gets 0 = NONE");
        Runs.run("never more than six", Runs.lines(SIX, "gets 5 = 0", "gets 6 = NO_SUCH"));
    }

    private static void pays() {
        Runs.run("nothing for nothing", "join 9 9", "pays 0 = 0", "join 9 9", "ask 1 0 2", "pays 0 = 0", "pays 1 = 0");
        Runs.run("what the others lose", "join 9 9", "join 9 9", "ask 0 0 2", "ask 1 0 1", "pays 0 = 10", "pays 1 = 0",
                "ask 1 0 2", "pays 0 = 0", "pays 1 = 20");
        Runs.run("less what the others get in the best one", Runs.lines(THREE, "add 0 1 1 0 100", "add 1 0 1 0 55",
                "add 2 1 0 0 60", "best = 115", "gets 0 = NONE", "gets 1 = 1", "gets 2 = 1", "pays 0 = 0",
                "pays 1 = 50", "pays 2 = 45"));
        Runs.run("a package that takes from two", Runs.lines(WIDE, "add 0 1 1 1 100", "best = 100", "pays 0 = 20",
                "pays 1 = 0", "pays 2 = 0", "gets 1 = NONE"));
        Runs.run("just one bidder pays nothing", "join 9 9", "ask 0 0 2", "close", "add 0 1 0 0 999999",
                "best = 999999", "pays 0 = 0");
        Runs.run("the greatest payment", "offer 0 1 1", "price 0 1", "set 0 50", "join 9 9", "join 9 9", "ask 0 0 1",
                "ask 1 1 1", "close", "add 0 1 0 0 999999", "add 1 1 0 0 999999", "best = 1000009", "gets 0 = 1",
                "gets 1 = 0", "pays 0 = 999989", "pays 1 = 0", "drop 0 1", "gets 0 = NONE", "gets 1 = 1", "pays 1 = 1");
    }

    private static void paysRefused() {
        Runs.run("there is no such bidder", "pays 0 = NO_SUCH", "join 9 9", "pays 1 = NO_SUCH", "pays -1 = NO_SUCH",
                "pays -2147483648 = NO_SUCH", "pays 2147483647 = NO_SUCH", "pays 0 = 0");
        Runs.run("never more than six", Runs.lines(SIX, "pays 5 = 0", "pays 6 = NO_SUCH"));
    }

    private static void oneMore() {
        Runs.run("nothing without bidders", "oneMore 0 = 0", "oneMore 1 = 0", "oneMore 2 = 0");
        for (int k = 0; k < 3; k++) {
            Runs.run("one more of the kind " + k, "join 9 9", "join 9 9", "ask 0 0 2", "ask 1 0 1", "ask 0 1 2",
                    "ask 1 1 1", "ask 0 2 2", "ask 1 2 1", "best = 60", "oneMore " + k + " = 0",
                    "ask 1 " + (k + 1) % 3 + " 0", "ask 1 " + (k + 2) % 3 + " 0", "oneMore " + k + " = 10",
                    "oneMore " + (k + 1) % 3 + " = 0");
        }
        Runs.run("one more is not two more", "join 9 9", "join 9 9", "ask 0 0 2", "ask 1 0 2", "oneMore 0 = 0");
        Runs.run("a tenth one, where the supply is 9", "offer 0 9 1", "join 9 9", "join 9 9", "ask 0 0 9", "ask 1 0 1",
                "best = 90", "oneMore 0 = 10");
        Runs.run("it is the same for all that ask for no more", "join 9 9", "ask 0 0 2", "oneMore 0 = 0", "close",
                "oneMore 0 = 0");
        Runs.run("the demands and the packages stay as they are", "offer 0 1 1", "join 9 9", "ask 0 0 1", "close",
                "oneMore 0 = 0", "best = 10");
        Runs.run("also by packages", Runs.lines(THREE, "add 0 1 1 0 100", "add 1 0 1 0 55", "add 2 1 0 0 60",
                "oneMore 0 = 45", "oneMore 1 = 50", "oneMore 2 = 0"));
    }

    private static void oneMoreRefused() {
        Runs.run("there is no such kind", "oneMore -1 = NO_SUCH", "oneMore 3 = NO_SUCH",
                "oneMore -2147483648 = NO_SUCH", "oneMore 2147483647 = NO_SUCH", "oneMore 0 = 0", "oneMore 2 = 0");
    }

    private static void leastMissed() {
        Runs.run("NONE without bidders", "leastMissed = NONE", "close", "leastMissed = NONE");
        Runs.run("one bidder", "join 9 9", "leastMissed = 0", "ask 0 0 2", "leastMissed = 0");
        Runs.run("among several the lowest", "join 9 9", "join 9 9", "join 9 9", "leastMissed = 0", "ask 0 0 1",
                "leastMissed = 1", "ask 1 1 1", "leastMissed = 2", "ask 2 2 1", "leastMissed = 0");
        Runs.run("without which it would be worth most", "join 9 9", "join 9 9", "join 9 9", "ask 0 0 2", "ask 1 1 2",
                "ask 2 2 1", "leastMissed = 2", "price 1 4", "leastMissed = 1");
        Runs.run("the last of six", "join 9 9", "join 9 9", "join 9 9", "join 9 9", "join 9 9", "join 9 9", "ask 0 0 1",
                "ask 1 0 1", "ask 2 1 1", "ask 3 1 1", "ask 4 2 1", "leastMissed = 5", "ask 5 2 1", "leastMissed = 0");
        Runs.run("one whom another replaces is not missed", "join 9 9", "join 9 9", "join 9 9", "ask 0 0 2",
                "ask 1 1 2", "ask 2 1 2", "leastMissed = 1");
    }

    private static void wouldAsk() {
        String[] two = {"offer 1 3 2", "join 4 9", "join 0 1", "value 0 0 20", "value 0 1 25", "ask 0 0 1"};
        Runs.run("the demand behind bid", Runs.lines(two, "wouldAsk 0 0 = 2", "wouldAsk 0 1 = 1", "wouldAsk 0 2 = 0",
                "demand 0 0 = 1", "demand 0 1 = 0", "bid 0 = 35", "demand 0 0 = 2", "demand 0 1 = 1"));
        Runs.run("a right of 0", Runs.lines(two, "value 1 0 99", "wouldAsk 1 0 = 0"));
        Runs.run("also if the auction is over", Runs.lines(two, "value 0 1 35", "ask 0 1 1", "close", "bidder 0 0 = 3",
                "bid 0 = NOT_NOW", "wouldAsk 0 0 = 1", "wouldAsk 0 1 = 1", "value 0 0 0", "wouldAsk 0 0 = 0"));
        Runs.run("of several the smallest", "join 2 2", "value 0 0 20", "value 0 1 20", "value 0 2 20",
                "wouldAsk 0 0 = 0", "wouldAsk 0 1 = 0", "wouldAsk 0 2 = 2");
    }

    private static void wouldAskRefused() {
        Runs.run("there is no such bidder", "wouldAsk 0 0 = NO_SUCH", "join 9 9", "wouldAsk 1 0 = NO_SUCH",
                "wouldAsk -1 0 = NO_SUCH", "wouldAsk -2147483648 0 = NO_SUCH", "wouldAsk 2147483647 0 = NO_SUCH");
        Runs.run("there is no such kind", "join 9 9", "wouldAsk 0 -1 = NO_SUCH", "wouldAsk 0 3 = NO_SUCH",
                "wouldAsk 0 -2147483648 = NO_SUCH", "wouldAsk 0 2147483647 = NO_SUCH", "wouldAsk 0 2 = 0");
        Runs.run("neither of them", "wouldAsk 0 3 = NO_SUCH", "wouldAsk -1 -1 = NO_SUCH");
    }

    private static void roundsLeft() {
        Runs.run("0 if it is over", "close", "roundsLeft = 0");
        Runs.run("0 if it is over, whatever the values are", "join 9 9", "join 9 9", "ask 0 0 1", "ask 1 0 1", "close",
                "value 0 0 500", "value 1 0 500", "roundsLeft = 0");
        Runs.run("1 without bidders", "roundsLeft = 1");
        Runs.run("1 if nobody would ask for too much", "join 9 9", "join 9 9", "value 0 0 500", "roundsLeft = 1");
        Runs.run("bids take the place of the demands", "join 9 9", "join 9 9", "ask 0 0 2", "ask 1 0 2", "about 3 = 1",
                "roundsLeft = 1");
        Runs.run("until they ask no more", "join 9 9", "join 9 9", "value 0 0 12", "value 1 0 12", "roundsLeft = 3",
                "value 1 0 11", "roundsLeft = 2", "value 1 0 10", "roundsLeft = 1");
        Runs.run("from now on, not from the start", "join 9 9", "join 9 9", "value 0 0 12", "value 1 0 12", "bid 0",
                "bid 1", "close", "roundsLeft = 2", "close", "roundsLeft = 1");
        Runs.run("all bidders bid, six of them", "join 9 9", "join 9 9", "join 9 9", "join 9 9", "join 9 9", "join 9 9",
                "value 0 0 14", "value 5 0 13", "value 4 1 50", "value 5 1 12", "roundsLeft = 4", "endPrice 0 = 13",
                "endPrice 1 = 12", "value 5 0 0", "roundsLeft = 3");
        Runs.run("rights fall on the way", "offer 0 2 2", "offer 1 1 3", "set 1 20", "join 5 2", "join 4 2",
                "value 0 0 13", "value 0 1 12", "value 1 0 99", "roundsLeft = 2", "endPrice 0 = 12");
    }

    /** The price of the kind 0 rises from 1 by 1 a round, from 200 on by 2, as long as both values are above it. */
    private static String[] slow(int value) {
        return new String[] {"price 0 1", "set 1 1", "join 2 2", "join 2 2", "value 0 0 " + value, "value 1 0 " + value};
    }

    private static void twoHundred() {
        Runs.run("199 rounds", Runs.lines(slow(199), "roundsLeft = 199", "endPrice 0 = 199"));
        Runs.run("200 rounds", Runs.lines(slow(200), "roundsLeft = 200", "endPrice 0 = 200"));
        Runs.run("NONE if it would not be over then", Runs.lines(slow(201), "roundsLeft = NONE", "about 1 = 0",
                "about 2 = 0"));
        Runs.run("200 from now on", Runs.lines(slow(201), "bid 0", "bid 1", "close", "roundsLeft = 200",
                "endPrice 0 = 202"));
        Runs.run("not over then, by far", Runs.lines(slow(99999), "roundsLeft = NONE"));
    }

    private static void endPrice() {
        Runs.run("the price when it is over", "join 9 9", "join 9 9", "value 0 0 12", "value 1 0 12", "value 0 1 90",
                "endPrice 0 = 12", "endPrice 1 = 10", "endPrice 2 = 10", "kind 0 2 = 10");
        Runs.run("the price as it is, if it is over", "price 1 55", "close", "endPrice 1 = 55");
        Runs.run("the price as it is, without bidders", "price 2 99999", "endPrice 2 = 99999");
        Runs.run("behind 200 rounds if it is not over", Runs.lines(slow(201), "endPrice 0 = 202", "endPrice 1 = 10"));
        Runs.run("behind 200 rounds, and no more", Runs.lines(slow(400), "endPrice 0 = 202"));
        Runs.run("not above 99999", "price 0 99998", "join 9 9", "join 9 9", "value 0 0 99999", "value 1 0 99999",
                "endPrice 0 = 99999", "roundsLeft = 2");
        Runs.run("by the step", "set 1 50", "join 9 9", "join 9 9", "value 0 2 90", "value 1 2 90", "endPrice 2 = 109",
                "roundsLeft = 7");
    }

    private static void endPriceRefused() {
        Runs.run("there is no such kind", "endPrice -1 = NO_SUCH", "endPrice 3 = NO_SUCH",
                "endPrice -2147483648 = NO_SUCH", "endPrice 2147483647 = NO_SUCH", "endPrice 0 = 10", "endPrice 2 = 10",
                "close", "endPrice 3 = NO_SUCH");
    }
}
