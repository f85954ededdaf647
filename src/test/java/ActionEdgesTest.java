/** Promises 12 to 22, sentence by sentence: the actions at their edges. */
public final class ActionEdgesTest {
    private static final String[] SIX = {
        "join 99 9", "join 99 9", "join 99 9", "join 99 9", "join 99 9", "join 99 9"
    };
    /** A round was closed, and the auction goes on. */
    private static final String[] GOING = {"join 20 9", "join 20 9", "ask 0 0 2", "ask 1 0 1", "ask 1 1 2", "close"};
    /** Supplies 5, 3 and 9 with 2, 3 and 1 points; the bidder 0 has the right 20 and the cap 4. */
    private static final String[] OVER = {
        "offer 0 5 2", "offer 1 3 3", "offer 2 9 1", "price 1 30", "join 20 4", "join 1 9", "ask 0 0 4", "ask 0 1 3",
        "ask 0 2 3", "ask 1 2 1", "close"
    };

    public static void main(String[] args) {
        offer();
        offerRefused();
        price();
        join();
        joinRefused();
        value();
        valueRefused();
        ask();
        askLimits();
        askRefused();
        bid();
        bidLimits();
        bidTies();
        bidRefused();
        closeRights();
        closePrices();
        closeAtTheBound();
        closeIsOver();
        addRanges();
        addLots();
        addPoints();
        addValue();
        addOrder();
        addState();
        drop();
        sixBidders();
        dropRefused();
        set();
        undo();
        undoFourteen();
        undoNoActions();
        Check.end();
    }

    private static void offer() {
        Runs.run("a supply, 1 to 9", "offer 0 1 1 = 2", "kind 0 0 = 1", "offer 0 9 1 = 1", "kind 0 0 = 9",
                "offer 0 0 1 = BAD", "offer 0 10 1 = BAD", "offer 0 -2147483648 1 = BAD", "offer 0 2147483647 1 = BAD");
        Runs.run("points, 1 to 9", "offer 1 2 1 = 2", "kind 1 1 = 1", "offer 1 2 9 = 2", "kind 1 1 = 9",
                "offer 1 2 0 = BAD", "offer 1 2 10 = BAD", "offer 1 2 -2147483648 = BAD", "offer 1 2 2147483647 = BAD");
        Runs.run("there is no such kind", "offer -1 2 1 = NO_SUCH", "offer 3 2 1 = NO_SUCH",
                "offer -2147483648 2 1 = NO_SUCH", "offer 2147483647 2 1 = NO_SUCH", "offer 2 3 4 = 2", "kind 2 0 = 3",
                "kind 2 1 = 4", "kind 0 0 = 2", "kind 1 0 = 2");
        Runs.run("the points alone may change", "offer 0 2 5 = 2", "kind 0 0 = 2", "kind 0 1 = 5", "offer 0 2 5 = 2");
    }

    private static void offerRefused() {
        Runs.run("there are bidders", "join 9 9", "offer 0 1 1 = NOT_NOW", "undo", "offer 0 1 1 = 2");
        Runs.run("a round was closed", "close", "about 0 = 0", "offer 0 1 1 = NOT_NOW", "undo", "offer 0 1 1 = 2");
        Runs.run("a round was closed, and there are bidders", Runs.lines(GOING, "offer 0 1 1 = NOT_NOW"));
        Runs.run("no such kind comes first", Runs.lines(GOING, "offer 3 1 1 = NO_SUCH", "offer -1 0 1 = NO_SUCH",
                "offer 3 1 10 = NO_SUCH"));
        Runs.run("no such kind, ahead of supply and points", "offer 3 0 1 = NO_SUCH", "offer -1 1 0 = NO_SUCH");
        Runs.run("supply and points ahead of bidders", "join 9 9", "offer 0 0 1 = BAD", "offer 0 1 10 = BAD");
        Runs.run("supply and points ahead of a round", "close", "offer 0 10 1 = BAD", "offer 0 1 0 = BAD");
    }

    private static void price() {
        Runs.run("a price, 1 to 99999", "price 0 1 = 10", "kind 0 2 = 1", "price 0 99999 = 1", "kind 0 2 = 99999",
                "price 0 0 = BAD", "price 0 100000 = BAD", "price 0 -1 = BAD", "price 0 -2147483648 = BAD",
                "price 0 2147483647 = BAD");
        Runs.run("there is no such kind", "price -1 5 = NO_SUCH", "price 3 5 = NO_SUCH",
                "price -2147483648 5 = NO_SUCH", "price 2147483647 5 = NO_SUCH", "price 2 5 = 10", "kind 2 2 = 5",
                "kind 1 2 = 10");
        Runs.run("there may be bidders", "join 9 9", "ask 0 0 2", "price 0 5 = 10", "about 5 = 10");
        Runs.run("a round was closed", Runs.lines(GOING, "price 0 5 = NOT_NOW", "price 1 10 = NOT_NOW"));
        Runs.run("a round was closed, and it is over", "close", "price 0 5 = NOT_NOW", "undo", "price 0 5 = 10");
        Runs.run("no such kind comes first", Runs.lines("price 3 0 = NO_SUCH", "price -1 100000 = NO_SUCH", GOING,
                "price 3 5 = NO_SUCH", "price -1 0 = NO_SUCH"));
        Runs.run("the price ahead of the round", Runs.lines(GOING, "price 0 0 = BAD", "price 2 100000 = BAD"));
    }

    private static void join() {
        Runs.run("a right, 0 to 99", "join 0 5 = 0", "bidder 0 0 = 0", "join 99 5 = 1", "bidder 1 0 = 99",
                "join -1 5 = BAD", "join 100 5 = BAD", "join -2147483648 5 = BAD", "join 2147483647 5 = BAD");
        Runs.run("a cap, 1 to 9", "join 5 1 = 0", "bidder 0 1 = 1", "join 5 9 = 1", "bidder 1 1 = 9", "join 5 0 = BAD",
                "join 5 10 = BAD", "join 5 -2147483648 = BAD", "join 5 2147483647 = BAD");
        Runs.run("numbered from 0 in the order in which they came", "join 1 1 = 0", "join 2 2 = 1", "join 3 3 = 2",
                "bidder 0 0 = 1", "bidder 1 0 = 2", "bidder 2 0 = 3");
    }

    private static void joinRefused() {
        Runs.run("there are 6", "join 1 1 = 0", "join 1 1 = 1", "join 1 1 = 2", "join 1 1 = 3", "join 1 1 = 4",
                "join 1 1 = 5", "join 1 1 = NOT_NOW", "undo", "join 2 2 = 5");
        Runs.run("a round was closed", Runs.lines(GOING, "join 1 1 = NOT_NOW"));
        Runs.run("a round was closed, and it is over", "close", "join 1 1 = NOT_NOW", "undo", "join 1 1 = 0");
        Runs.run("right and cap ahead of 6", Runs.lines(SIX, "join 100 1 = BAD", "join -1 1 = BAD", "join 1 0 = BAD",
                "join 1 10 = BAD"));
        Runs.run("right and cap ahead of the round", Runs.lines(GOING, "join 100 1 = BAD", "join 1 0 = BAD"));
    }

    private static void value() {
        Runs.run("a value, 0 to 99999", "join 9 9", "value 0 0 99999 = 0", "value 0 0 0 = 99999", "value 0 0 -1 = BAD",
                "value 0 0 100000 = BAD", "value 0 0 -2147483648 = BAD", "value 0 0 2147483647 = BAD");
        Runs.run("each bidder and each kind has its own", "join 9 9", "join 9 9", "value 0 0 1 = 0", "value 0 2 2 = 0",
                "value 1 0 3 = 0", "value 1 2 4 = 0", "value 0 0 5 = 1", "value 0 2 5 = 2", "value 1 0 5 = 3",
                "value 1 2 5 = 4", "value 0 1 5 = 0", "value 1 1 5 = 0");
        Runs.run("also behind a round, and when it is over", Runs.lines(GOING, "value 0 0 50 = 0", "ask 0 0 0", "close",
                "about 2 = 1", "value 0 0 60 = 50"));
    }

    private static void valueRefused() {
        Runs.run("there is no such bidder", "value 0 0 5 = NO_SUCH", "join 9 9", "value 1 0 5 = NO_SUCH",
                "value -1 0 5 = NO_SUCH", "value -2147483648 0 5 = NO_SUCH", "value 2147483647 0 5 = NO_SUCH");
        Runs.run("there is no such kind", "join 9 9", "value 0 -1 5 = NO_SUCH", "value 0 3 5 = NO_SUCH",
                "value 0 -2147483648 5 = NO_SUCH", "value 0 2147483647 5 = NO_SUCH");
        Runs.run("no such bidder or kind, ahead of the value", "value 0 0 -1 = NO_SUCH", "join 9 9",
                "value 1 0 100000 = NO_SUCH", "value 0 3 -1 = NO_SUCH", "value -1 -1 -1 = NO_SUCH");
    }

    private static void ask() {
        Runs.run("n from 0 to 9", "offer 0 9 1", "join 99 9", "ask 0 0 9 = 9", "ask 0 0 0 = 0", "ask 0 0 -1 = BAD",
                "ask 0 0 10 = BAD", "ask 0 0 -2147483648 = BAD", "ask 0 0 2147483647 = BAD");
        Runs.run("its activity then", "offer 0 9 2", "offer 1 9 3", "join 99 9", "ask 0 0 4 = 8", "ask 0 1 5 = 23",
                "ask 0 0 1 = 17", "ask 0 1 5 = 17");
        Runs.run("at most the cap", "offer 0 9 1", "join 99 4", "ask 0 0 5 = NOT_NOW", "ask 0 0 4 = 4",
                "ask 0 0 5 = NOT_NOW", "ask 0 0 9 = NOT_NOW");
        Runs.run("at most the least cap", "join 99 1", "ask 0 2 2 = NOT_NOW", "ask 0 2 1 = 1");
        Runs.run("at most the cap of each kind, not of all", "join 99 2", "ask 0 0 2 = 2", "ask 0 1 2 = 4",
                "ask 0 2 2 = 6");
    }

    private static void askLimits() {
        Runs.run("at most the supply", "offer 0 1 1", "offer 2 8 1", "join 99 9", "ask 0 0 2 = NOT_NOW",
                "ask 0 0 1 = 1", "ask 0 1 3 = NOT_NOW", "ask 0 1 2 = 3", "ask 0 2 9 = NOT_NOW", "ask 0 2 8 = 11");
        Runs.run("whatever the demands for the others are", "offer 0 9 1", "join 99 9", "join 99 9", "ask 0 0 9 = 9",
                "ask 1 0 9 = 9", "ask 0 1 2 = 11", "ask 0 2 2 = 13");
        Runs.run("the activity is at most the right", "offer 0 9 2", "offer 1 9 3", "join 13 9", "ask 0 0 7 = NOT_NOW",
                "ask 0 0 5 = 10", "ask 0 1 1 = 13", "ask 0 1 2 = NOT_NOW", "ask 0 2 1 = NOT_NOW", "ask 0 0 6 = NOT_NOW",
                "ask 0 0 2 = 7", "ask 0 1 3 = 13");
        Runs.run("a right of 0", "join 0 9", "ask 0 0 1 = NOT_NOW", "ask 0 0 0 = 0");
        Runs.run("the right that a round has left", Runs.lines(GOING, "bidder 0 0 = 2", "ask 0 1 1 = NOT_NOW",
                "ask 0 0 1 = 1", "ask 0 1 1 = 2", "ask 0 2 1 = NOT_NOW"));
        Runs.run("the greatest right", "offer 0 9 9", "offer 1 9 2", "offer 2 9 1", "join 99 9", "ask 0 0 9 = 81",
                "ask 0 1 9 = 99", "ask 0 2 1 = NOT_NOW");
    }

    private static void askRefused() {
        Runs.run("there is no such bidder", "ask 0 0 0 = NO_SUCH", "join 9 9", "ask 1 0 0 = NO_SUCH",
                "ask -1 0 0 = NO_SUCH", "ask -2147483648 0 0 = NO_SUCH", "ask 2147483647 0 0 = NO_SUCH");
        Runs.run("there is no such kind", "join 9 9", "ask 0 -1 0 = NO_SUCH", "ask 0 3 0 = NO_SUCH",
                "ask 0 -2147483648 0 = NO_SUCH", "ask 0 2147483647 0 = NO_SUCH");
        Runs.run("the auction is over", "join 9 9", "ask 0 0 1", "close", "ask 0 0 0 = NOT_NOW", "ask 0 0 1 = NOT_NOW",
                "undo", "ask 0 0 2 = 2");
        Runs.run("no such bidder or kind comes first", "ask 0 0 10 = NO_SUCH", "join 9 9", "ask 1 0 -1 = NO_SUCH",
                "ask 0 3 10 = NO_SUCH", "ask 0 -1 3 = NO_SUCH", "close", "ask 1 0 0 = NO_SUCH", "ask 0 3 0 = NO_SUCH");
        Runs.run("n out of range ahead of the cap, the supply and the right", "join 0 1", "ask 0 0 10 = BAD");
        Runs.run("n out of range ahead of the end", "join 9 9", "close", "ask 0 0 10 = BAD", "ask 0 0 -1 = BAD");
    }

    private static void bid() {
        Runs.run("the greatest profit", "offer 0 4 3", "offer 1 5 2", "join 13 4", "value 0 0 40", "value 0 1 25",
                "bid 0 = 120", "demand 0 0 = 3", "demand 0 1 = 2", "demand 0 2 = 0", "value 0 2 17", "bid 0 = 127",
                "demand 0 0 = 4", "demand 0 1 = 0", "demand 0 2 = 1");
        Runs.run("fewer of the dearer lots may gain more", "offer 0 3 5", "offer 1 3 3", "join 9 3", "value 0 0 27",
                "value 0 1 21", "bid 0 = 33", "demand 0 0 = 0", "demand 0 1 = 3");
        Runs.run("the old demands are given up", "join 2 2", "ask 0 0 2", "value 0 1 11", "bid 0 = 2", "demand 0 0 = 0",
                "demand 0 1 = 2");
        Runs.run("no profit without values above the prices", "join 9 9", "value 0 0 10", "value 0 1 9", "ask 0 2 2",
                "bid 0 = 0", "bidder 0 2 = 0");
        Runs.run("a profit of 1", "join 9 1", "value 0 2 11", "bid 0 = 1", "demand 0 2 = 1");
        Runs.run("the greatest one of all", "offer 0 9 1", "offer 1 9 1", "offer 2 9 1", "price 0 1", "price 1 1",
                "price 2 1", "join 99 9", "value 0 0 99999", "value 0 1 99999", "value 0 2 99999", "bid 0 = 2699946",
                "bidder 0 2 = 27");
        Runs.run("only this bidder", "join 9 9", "join 9 9", "value 0 0 20", "value 1 0 20", "bid 1 = 20",
                "demand 0 0 = 0", "demand 1 0 = 2");
    }

    private static void bidLimits() {
        Runs.run("that its cap allows", "offer 0 9 1", "join 99 3", "value 0 0 11", "bid 0 = 3", "demand 0 0 = 3");
        Runs.run("that the supplies allow", "offer 0 1 1", "offer 1 9 1", "join 99 9", "value 0 0 11", "value 0 1 11",
                "value 0 2 11", "bid 0 = 12", "demand 0 0 = 1", "demand 0 1 = 9", "demand 0 2 = 2");
        Runs.run("whatever the others ask for", "join 99 9", "join 99 9", "value 0 0 11", "value 1 0 11", "bid 0 = 2",
                "bid 1 = 2");
        Runs.run("that its right allows", "offer 0 2 9", "join 17 9", "value 0 0 20", "bid 0 = 10", "demand 0 0 = 1");
        Runs.run("just that its right allows", "offer 0 2 9", "join 18 9", "value 0 0 20", "bid 0 = 20",
                "demand 0 0 = 2");
        Runs.run("a right that is too little for one lot", "offer 0 2 9", "join 8 9", "value 0 0 20", "bid 0 = 0");
        Runs.run("a right of 0", "join 0 9", "value 0 0 20", "value 0 1 20", "value 0 2 20", "bid 0 = 0");
        Runs.run("the right that a round has left", Runs.lines(GOING, "value 0 0 13", "value 0 1 12", "bid 0 = 4",
                "demand 0 0 = 0", "demand 0 1 = 2"));
    }

    private static void bidTies() {
        Runs.run("of several the smallest demand for the kind 0", "join 2 2", "value 0 0 20", "value 0 1 20",
                "bid 0 = 20", "demand 0 0 = 0", "demand 0 1 = 2");
        Runs.run("the kind 0, though this takes more of the others", "offer 0 2 2", "join 2 9", "value 0 0 20",
                "value 0 1 15", "bid 0 = 10", "demand 0 0 = 0", "demand 0 1 = 2");
        Runs.run("then for the kind 1", "join 2 2", "value 0 1 20", "value 0 2 20", "bid 0 = 20", "demand 0 1 = 0",
                "demand 0 2 = 2");
        Runs.run("the kind 0 ahead of the kind 1", "offer 0 1 2", "offer 1 1 1", "offer 2 1 1", "join 2 9",
                "value 0 0 20", "value 0 1 15", "value 0 2 15", "bid 0 = 10", "demand 0 0 = 0", "demand 0 1 = 1",
                "demand 0 2 = 1");
        Runs.run("then for the kind 2: nothing for nothing", "join 9 9", "value 0 2 10", "bid 0 = 0", "demand 0 2 = 0");
        Runs.run("lots at their price are not asked for", "join 9 9", "value 0 0 10", "value 0 1 10", "value 0 2 11",
                "bid 0 = 2", "demand 0 0 = 0", "demand 0 1 = 0", "demand 0 2 = 2");
        Runs.run("a greater profit comes first", "join 2 2", "value 0 0 21", "value 0 1 20", "value 0 2 20",
                "bid 0 = 22", "demand 0 0 = 2");
    }

    private static void bidRefused() {
        Runs.run("there is no such bidder", "bid 0 = NO_SUCH", "join 9 9", "bid 1 = NO_SUCH", "bid -1 = NO_SUCH",
                "bid -2147483648 = NO_SUCH", "bid 2147483647 = NO_SUCH", "bid 0 = 0");
        Runs.run("the auction is over", "join 9 9", "value 0 0 50", "close", "bid 0 = NOT_NOW", "undo", "bid 0 = 80");
        Runs.run("no such bidder ahead of the end", "join 9 9", "close", "bid 1 = NO_SUCH", "bid -1 = NO_SUCH");
        Runs.run("also behind a round that does not end it", Runs.lines(GOING, "bid 0 = 0", "bidder 0 2 = 0"));
    }

    private static void closeRights() {
        Runs.run("a right becomes the activity", "join 50 9", "ask 0 0 2", "close", "bidder 0 0 = 2");
        Runs.run("a right becomes 0 without activity", "join 50 9", "close", "bidder 0 0 = 0");
        Runs.run("a right that is as great as this", "join 2 9", "ask 0 0 2", "close", "bidder 0 0 = 2");
        Runs.run("only if this is less than its right", "join 3 9", "ask 0 0 2", "set 0 50", "close", "bidder 0 0 = 3");
        Runs.run("just twice the activity", "join 4 9", "ask 0 0 2", "set 0 50", "close", "bidder 0 0 = 4");
        Runs.run("a right above twice the activity", "join 5 9", "ask 0 0 2", "set 0 50", "close", "bidder 0 0 = 4");
        Runs.run("rounded down", "join 50 9", "ask 0 0 2", "set 0 67", "close", "bidder 0 0 = 2");
        Runs.run("rounded down, just at the next one", "join 50 9", "ask 0 0 2", "set 0 66", "close", "bidder 0 0 = 3");
        Runs.run("rounded down by 99", "offer 0 9 9", "offer 1 9 2", "join 99 9", "ask 0 0 9", "ask 0 1 8", "set 0 99",
                "close", "bidder 0 0 = 97");
        Runs.run("each bidder's right, also of those who do not ask", "join 9 9", "join 8 9", "join 7 9", "ask 0 0 2",
                "ask 2 0 1", "close", "bidder 0 0 = 2", "bidder 1 0 = 0", "bidder 2 0 = 1");
        Runs.run("the right falls round by round", "join 9 9", "join 9 9", "ask 0 0 2", "ask 0 1 2", "ask 1 0 2",
                "close", "bidder 0 0 = 4", "ask 0 1 1", "close", "bidder 0 0 = 3", "ask 0 1 2 = NOT_NOW");
    }

    private static void closePrices() {
        Runs.run("demands above the supply", "join 9 9", "join 9 9", "ask 0 0 2", "ask 1 0 1", "close = 1",
                "kind 0 2 = 11");
        Runs.run("demands just at the supply", "join 9 9", "join 9 9", "ask 0 0 1", "ask 1 0 1", "close = 0",
                "kind 0 2 = 10");
        Runs.run("all of three kinds", "join 9 9", "join 9 9", "ask 0 0 2", "ask 0 1 2", "ask 0 2 2", "ask 1 0 1",
                "ask 1 1 1", "ask 1 2 1", "close = 3", "kind 0 2 = 11", "kind 1 2 = 11", "kind 2 2 = 11");
        Runs.run("two of three kinds", "join 9 9", "join 9 9", "ask 0 0 2", "ask 0 1 1", "ask 0 2 2", "ask 1 0 1",
                "ask 1 1 1", "ask 1 2 1", "close = 2", "kind 0 2 = 11", "kind 1 2 = 10", "kind 2 2 = 11");
        rises("rounded down", 19, 10, 20);
        rises("rounded down, just at the next one", 20, 10, 22);
        rises("at least 1", 1, 1, 2);
        rises("at least 1, for almost 1", 99, 1, 100);
        rises("just 1", 100, 1, 101);
        rises("almost 2", 199, 1, 200);
        rises("the greatest step", 3, 50, 4);
        rises("the greatest step, rounded down", 7, 50, 10);
        rises("a great price", 60000, 50, 90000);
        Runs.run("demands stay as they are", Runs.lines(GOING, "demand 0 0 = 2", "demand 1 0 = 1", "demand 1 1 = 2",
                "about 5 = 53"));
    }

    private static void rises(String how, int from, int step, int to) {
        Runs.run("the price rises, " + how, "price 1 " + from, "set 1 " + step, "join 9 9", "join 9 9", "ask 0 1 2",
                "ask 1 1 1", "close = 1", "kind 1 2 = " + to, "about 2 = 0");
    }

    private static void closeAtTheBound() {
        rises("not above 99999", 99998, 10, 99999);
        rises("not above 99999, by far", 99998, 50, 99999);
        rises("just to 99999", 90909, 10, 99999);
        rises("just below 99999", 90908, 10, 99998);
        rises("just to 99999 by 1", 99998, 1, 99999);
        rises("not at all, but it would but for the bound", 99999, 1, 99999);
        Runs.run("not over at the bound", "price 0 99999", "join 9 9", "join 9 9", "ask 0 0 2", "ask 1 0 1",
                "close = 1", "close = 1", "about 1 = 2", "about 2 = 0", "ask 0 0 1 = 1", "close = 0", "about 2 = 1");
    }

    private static void closeIsOver() {
        Runs.run("no such kind: it is over", "join 9 9", "close = 0", "about 2 = 1", "about 1 = 1");
        Runs.run("without bidders", "close = 0", "about 2 = 1", "about 1 = 1");
        Runs.run("the auction is over", "close", "close = NOT_NOW", "undo", "close = 0");
        Runs.run("rights fall in the last round too", "join 9 9", "ask 0 0 1", "close = 0", "bidder 0 0 = 1");
        Runs.run("prices stay in the last round", "join 9 9", "ask 0 0 2", "close = 0", "kind 0 2 = 10");
    }

    private static void addRanges() {
        for (int k = 0; k < 3; k++) {
            String[] before = {"0 ".repeat(k), "1 ".repeat(k)};
            String behind = " 0".repeat(2 - k) + " 500";
            Runs.run("lots of the kind " + k + ", 0 to 9", Runs.lines(OVER,
                    "add 0 " + before[0] + -1 + behind + " = BAD", "add 0 " + before[0] + 10 + behind + " = BAD",
                    "add 0 " + before[1] + -2147483648 + behind + " = BAD",
                    "add 0 " + before[1] + 2147483647 + behind + " = BAD",
                    "add 0 " + before[0] + 9 + behind + " = NOT_NOW", "add 0 " + before[0] + 1 + behind + " = 1"));
        }
        Runs.run("nine lots of each kind", Runs.lines("offer 0 9 1", "offer 1 9 1", "offer 2 9 1", "join 27 9",
                "ask 0 0 9", "ask 0 1 9", "ask 0 2 9", "close", "add 0 9 9 9 999999 = 1", "add 0 10 9 9 999999 = BAD",
                "add 0 9 10 9 999999 = BAD", "add 0 9 9 10 999999 = BAD"));
        Runs.run("a value, 1 to 999999", "price 0 1", "join 9 9", "ask 0 0 1", "close", "add 0 1 0 0 0 = BAD",
                "add 0 1 0 0 1000000 = BAD", "add 0 1 0 0 -1 = BAD", "add 0 1 0 0 -2147483648 = BAD",
                "add 0 1 0 0 2147483647 = BAD", "add 0 1 0 0 1 = 1", "add 0 1 0 0 999999 = 2", "pack 0 1 3 = 1",
                "pack 0 2 3 = 999999");
    }

    private static void addLots() {
        Runs.run("not none at all", Runs.lines(OVER, "add 0 0 0 0 1 = NOT_NOW", "add 0 0 0 0 999999 = NOT_NOW",
                "add 0 0 0 1 500 = 1"));
        Runs.run("of each not more than the cap", Runs.lines(OVER, "add 0 5 0 0 500 = NOT_NOW", "add 0 4 0 0 500 = 1",
                "add 0 0 0 5 500 = NOT_NOW", "add 0 0 0 4 500 = 2"));
        Runs.run("of each not more than its supply", Runs.lines(OVER, "add 0 0 4 0 500 = NOT_NOW",
                "add 0 0 3 0 500 = 1"));
        Runs.run("not more than a supply of each kind", "offer 0 1 1", "offer 1 2 1", "offer 2 3 1", "join 9 9",
                "set 0 50", "ask 0 0 1", "ask 0 1 2", "ask 0 2 3", "close", "add 0 2 0 0 500 = NOT_NOW",
                "add 0 1 0 0 500 = 1", "add 0 0 3 0 500 = NOT_NOW", "add 0 0 2 0 500 = 2", "add 0 0 0 4 500 = NOT_NOW",
                "add 0 0 0 3 500 = 3");
        Runs.run("the cap is for each kind, not for all", Runs.lines(OVER, "add 0 3 3 4 500 = 1"));
        Runs.run("what the others have does not matter", "join 9 9", "join 9 9", "ask 0 0 1", "ask 1 0 1", "set 0 50",
                "close", "add 0 2 0 0 500 = 1", "add 1 2 0 0 500 = 1");
    }

    private static void addPoints() {
        Runs.run("points not above its right", Runs.lines(OVER, "bidder 0 0 = 20", "add 0 4 3 4 500 = NOT_NOW",
                "add 0 4 3 3 500 = 1", "add 0 4 2 4 500 = 2"));
        Runs.run("points by the right that the rounds have left", Runs.lines(OVER, "bidder 1 0 = 1",
                "add 1 0 0 2 500 = NOT_NOW", "add 1 1 0 0 500 = NOT_NOW", "add 1 0 0 1 500 = 1"));
        Runs.run("a right of 0", "join 0 9", "close", "add 0 1 0 0 500 = NOT_NOW");
        Runs.run("the last round's right", "join 9 9", "ask 0 0 2", "close", "bidder 0 0 = 2",
                "add 0 1 1 1 500 = NOT_NOW", "add 0 0 1 1 500 = 1");
    }

    private static void addValue() {
        Runs.run("at least the sum of their prices", Runs.lines(OVER, "add 0 1 0 0 9 = NOT_NOW", "add 0 1 0 0 10 = 1",
                "add 0 2 1 3 79 = NOT_NOW", "add 0 2 1 3 80 = 2", "add 0 0 2 0 59 = NOT_NOW", "add 0 0 2 0 60 = 3"));
        Runs.run("the prices behind the rounds", Runs.lines(GOING, "ask 1 0 0", "close", "add 0 2 0 0 21 = NOT_NOW",
                "add 0 2 0 0 22 = 1"));
        Runs.run("no value is enough for what costs more than 999999", "offer 0 9 1", "offer 1 9 1", "price 0 99999",
                "price 1 99999", "join 99 9", "ask 0 0 9", "ask 0 1 9", "close", "add 0 9 1 0 999990 = 1",
                "add 0 9 1 0 999989 = NOT_NOW", "add 0 9 2 0 999999 = NOT_NOW", "add 0 9 9 0 999999 = NOT_NOW");
    }

    private static void addOrder() {
        Runs.run("no such bidder", Runs.lines(OVER, "add 2 1 0 0 500 = NO_SUCH", "add -1 1 0 0 500 = NO_SUCH",
                "add -2147483648 1 0 0 500 = NO_SUCH", "add 2147483647 1 0 0 500 = NO_SUCH"));
        Runs.run("no such bidder ahead of the other arguments", Runs.lines(OVER, "add 2 10 0 0 500 = NO_SUCH",
                "add 2 0 -1 0 500 = NO_SUCH", "add -1 0 0 10 500 = NO_SUCH", "add 2 1 0 0 0 = NO_SUCH"));
        Runs.run("no such bidder ahead of the rounds", Runs.lines(GOING, "add 2 1 0 0 500 = NO_SUCH",
                "add -1 10 0 0 0 = NO_SUCH"));
        Runs.run("the arguments ahead of the rounds", Runs.lines(GOING, "add 0 10 0 0 500 = BAD",
                "add 0 0 -1 0 500 = BAD", "add 0 0 0 10 500 = BAD", "add 0 1 0 0 0 = BAD",
                "add 0 1 0 0 1000000 = BAD"));
        Runs.run("the arguments ahead of 3 packages", Runs.lines(OVER, "add 0 1 0 0 50", "add 0 1 0 0 50",
                "add 0 1 0 0 50", "add 0 10 0 0 500 = BAD", "add 0 0 -1 0 500 = BAD", "add 0 0 0 10 500 = BAD",
                "add 0 1 0 0 1000000 = BAD"));
        Runs.run("the arguments ahead of what is not allowed", Runs.lines(OVER, "add 0 0 0 0 0 = BAD",
                "add 0 5 10 0 500 = BAD", "add 0 9 9 9 0 = BAD"));
    }

    private static void addState() {
        Runs.run("the auction is not over", "join 9 9", "ask 0 0 1", "add 0 1 0 0 500 = NOT_NOW", "close",
                "add 0 1 0 0 500 = 1", "undo", "undo", "add 0 1 0 0 500 = NOT_NOW");
        Runs.run("a round was closed, but it is not over", Runs.lines(GOING, "add 0 1 0 0 500 = NOT_NOW"));
        Runs.run("b has 3 packages", Runs.lines(OVER, "add 0 1 0 0 50 = 1", "add 0 1 0 0 50 = 2", "add 0 1 0 0 50 = 3",
                "add 0 1 0 0 50 = NOT_NOW", "add 1 0 0 1 50 = 1", "drop 0 2", "add 0 1 1 0 50 = 3", "pack 0 2 1 = 0",
                "pack 0 3 1 = 1"));
        Runs.run("the same lots once more", Runs.lines(OVER, "add 0 4 3 3 500 = 1", "add 0 4 3 3 500 = 2"));
    }

    private static void drop() {
        String[] three = Runs.lines(OVER, "add 0 1 0 0 11", "add 0 0 1 0 32", "add 0 0 0 1 13");
        Runs.run("drop the first of three", Runs.lines(three, "drop 0 1 = 2", "pack 0 1 1 = 1", "pack 0 1 3 = 32",
                "pack 0 1 0 = 0", "pack 0 2 2 = 1", "pack 0 2 3 = 13", "pack 0 3 0 = NO_SUCH"));
        Runs.run("drop the second of three", Runs.lines(three, "drop 0 2 = 2", "pack 0 1 0 = 1", "pack 0 1 3 = 11",
                "pack 0 2 2 = 1", "pack 0 2 1 = 0", "pack 0 2 3 = 13", "pack 0 3 0 = NO_SUCH"));
        Runs.run("drop the third of three", Runs.lines(three, "drop 0 3 = 2", "pack 0 1 3 = 11", "pack 0 2 3 = 32",
                "pack 0 3 0 = NO_SUCH"));
        Runs.run("drop all", Runs.lines(three, "drop 0 1 = 2", "drop 0 1 = 1", "drop 0 1 = 0", "drop 0 1 = NO_SUCH"));
        Runs.run("drop leaves the others' packages", Runs.lines(three, "add 1 0 0 1 55", "drop 0 1 = 2",
                "pack 1 1 3 = 55", "drop 1 1 = 0", "bidder 0 3 = 2"));
        Runs.run("what is added behind a drop is the last one", Runs.lines(three, "drop 0 1", "add 0 2 0 0 99 = 3",
                "pack 0 3 0 = 2", "pack 0 3 1 = 0", "pack 0 3 2 = 0", "pack 0 3 3 = 99"));
        Runs.run("undo brings it back", Runs.lines(three, "drop 0 1", "undo", "pack 0 1 0 = 1", "pack 0 1 3 = 11",
                "pack 0 3 3 = 13"));
    }

    private static void sixBidders() {
        Runs.run("six bidders with three packages each", Runs.lines(Six.start(), Six.due()));
        Runs.run("undo with all of them", Runs.lines(Six.start(), "set 0 60", "undo", Six.due()));
        for (int b = 0; b < 6; b++) {
            Runs.run("undo behind a drop of the first package", Runs.lines(Six.start(), "drop " + b + " 1 = 2", "undo",
                    Six.due()));
            Runs.run("undo behind an ask and a value of one of six", Runs.lines(SIX, "ask " + b + " 2 1",
                    "value " + b + " 0 66", "ask " + b + " 2 2", "value " + b + " 0 77", "undo", "undo",
                    "demand " + b + " 2 = 1", "value " + b + " 0 0 = 66"));
        }
        Runs.run("drop the packages of the last one", Runs.lines(Six.start(), "drop 5 1 = 2", "pack 5 1 3 = 1052",
                "pack 5 2 3 = 1053", "pack 5 2 0 = 2", "pack 5 2 1 = 0", "pack 5 2 2 = 1", "drop 5 2 = 1",
                "drop 5 1 = 0", "about 4 = 15", "pack 4 3 3 = 1043"));
        Runs.run("a drop leaves the next one's packages", Runs.lines(Six.start(), "drop 0 1 = 2", "pack 1 1 0 = 2",
                "pack 1 1 3 = 1011", "pack 0 2 0 = 0"));
    }

    private static void dropRefused() {
        Runs.run("there is no such bidder", "drop 0 1 = NO_SUCH", "join 9 9", "ask 0 0 1", "close", "add 0 1 0 0 50",
                "drop 1 1 = NO_SUCH", "drop -1 1 = NO_SUCH", "drop -2147483648 1 = NO_SUCH",
                "drop 2147483647 1 = NO_SUCH");
        Runs.run("no package 1 or more with this number", "join 9 9", "drop 0 1 = NO_SUCH", "ask 0 0 1", "close",
                "drop 0 1 = NO_SUCH", "add 0 1 0 0 50", "drop 0 0 = NO_SUCH", "drop 0 2 = NO_SUCH",
                "drop 0 -1 = NO_SUCH", "drop 0 -2147483648 = NO_SUCH", "drop 0 2147483647 = NO_SUCH", "drop 0 1 = 0");
    }

    private static void set() {
        Runs.run("0: 50 to 100", "set 0 50 = 100", "set 0 100 = 50", "set 0 49 = BAD", "set 0 101 = BAD",
                "set 0 -2147483648 = BAD", "set 0 2147483647 = BAD", "set 0 99 = 100", "setting 0 = 99",
                "setting 1 = 10");
        Runs.run("1: 1 to 50", "set 1 1 = 10", "set 1 50 = 1", "set 1 0 = BAD", "set 1 51 = BAD",
                "set 1 -2147483648 = BAD", "set 1 2147483647 = BAD", "set 1 2 = 50", "setting 1 = 2",
                "setting 0 = 100");
        Runs.run("what is out of range", "set -1 50 = BAD", "set 2 50 = BAD", "set -2147483648 50 = BAD",
                "set 2147483647 50 = BAD");
        Runs.run("both are out of range", "set -1 0 = BAD", "set 2 101 = BAD");
        Runs.run("at any time", Runs.lines(GOING, "set 0 60 = 100", "set 1 20 = 10", "ask 0 0 0", "close",
                "about 2 = 1", "set 0 70 = 60", "set 1 30 = 20"));
    }

    private static void undo() {
        Runs.run("none is remembered", "undo = NOT_NOW", "price 0 5", "undo = 0", "undo = NOT_NOW");
        Runs.run("also if nothing becomes different", "price 0 10 = 10", "undo = 0", "undo = NOT_NOW");
        Runs.run("each action that changes nothing is one", Runs.lines(OVER, "value 0 0 0", "set 0 100", "set 1 10",
                "undo = 13", "undo = 12", "undo = 11", "kind 0 0 = 5", "about 2 = 1", "undo = 10", "about 2 = 0"));
        Runs.run("undo is none: what follows goes back further", "price 0 1", "price 0 2", "price 0 3", "undo = 2",
                "undo = 1", "kind 0 2 = 1", "undo = 0", "kind 0 2 = 10", "undo = NOT_NOW");
        Runs.run("an action behind undo", "price 0 1", "price 0 2", "undo = 1", "price 0 7", "undo = 1", "kind 0 2 = 1",
                "undo = 0");
        Runs.run("each kind of action", "offer 0 3 1", "price 0 5", "join 9 9", "value 0 0 8", "ask 0 0 1", "bid 0",
                "set 0 50", "ask 0 1 2", "close", "add 0 0 1 0 50", "drop 0 1", "undo = 10", "pack 0 1 3 = 50",
                "undo = 9", "bidder 0 3 = 0", "undo = 8", "about 1 = 0", "about 2 = 0", "bidder 0 0 = 9", "undo = 7",
                "demand 0 1 = 0", "undo = 6", "setting 0 = 100", "undo = 5", "demand 0 0 = 1", "undo = 4",
                "demand 0 0 = 0", "undo = 3", "value 0 0 1 = 0", "undo = 3", "undo = 2", "about 0 = 0", "undo = 1",
                "kind 0 2 = 10", "undo = 0", "kind 0 0 = 2", "undo = NOT_NOW");
    }

    private static void undoFourteen() {
        String[] fourteen = new String[14];
        String[] back = new String[28];
        for (int i = 0; i < 14; i++) {
            fourteen[i] = "price 0 " + (101 + i);
            back[2 * i] = "undo = " + (13 - i);
            back[2 * i + 1] = "kind 0 2 = " + (i < 13 ? 113 - i : 10);
        }
        Runs.run("at most 14 states are remembered", Runs.lines(fourteen, back, "undo = NOT_NOW"));
        String[] later = back.clone();
        for (int i = 0; i < 14; i++) {
            later[2 * i + 1] = "kind 0 2 = " + (114 - i);
        }
        Runs.run("the oldest one is forgotten", Runs.lines(fourteen, "price 0 115", later, "undo = NOT_NOW"));
        Runs.run("the oldest ones are forgotten, twice round", Runs.lines(fourteen, fourteen, fourteen, "price 0 114",
                "price 0 115", "undo = 13", "kind 0 2 = 114", Runs.times(12, "undo"), "undo = 0", "kind 0 2 = 102",
                "undo = NOT_NOW"));
        Runs.run("up and down past the end of the ring", Runs.lines(fourteen, Runs.times(10, "undo"), "kind 0 2 = 104",
                fourteen, "undo = 13", "kind 0 2 = 113", Runs.times(12, "undo"), "undo = 0", "kind 0 2 = 104",
                "undo = NOT_NOW"));
    }

    private static void undoNoActions() {
        Runs.run("what is not among the actions", "price 0 5", "append 76", "clearText", "errorPosition", "about 0",
                "kind 0 0", "setting 0", "best", "oneMore 0", "leastMissed", "roundsLeft", "endPrice 0",
                "runScript 1 30000", "simulate 1 99", "save 0", "undo = 0");
        Runs.run("calls of actions that throw", "price 0 5", "price 0 0 = BAD", "offer 0 0 0 = BAD", "join 100 9 = BAD",
                "value 0 0 0 = NO_SUCH", "ask 0 0 0 = NO_SUCH", "bid 0 = NO_SUCH", "add 0 1 1 1 1 = NO_SUCH",
                "drop 0 1 = NO_SUCH", "set 0 1 = BAD", "undo = 0", "close", "close = NOT_NOW", "undo = 0");
    }
}
