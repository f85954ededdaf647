/** Promises 28 to 30: what would be. */
public final class AheadTest {
    public static void main(String[] args) {
        wouldAsk();
        rounds();
        noBidders();
        moreThan200();
        Check.end();
    }

    private static void wouldAsk() {
        ClockLots x = Check.loaded("Lb051b022v00020v01030v10020v11020v12020q002");
        Check.due("wouldAsk(0, 0)", x.wouldAsk(0, 0), 1);
        Check.due("wouldAsk(0, 1)", x.wouldAsk(0, 1), 1);
        Check.due("wouldAsk(0, 2)", x.wouldAsk(0, 2), 0);
        Check.due("wouldAsk(1, 0)", x.wouldAsk(1, 0), 0);
        Check.due("wouldAsk(1, 1)", x.wouldAsk(1, 1), 0);
        Check.due("wouldAsk(1, 2)", x.wouldAsk(1, 2), 2);
        Check.due("wouldAsk changes nothing", x.bidder(0, 2) + x.bidder(1, 2), 0);
        Check.dueThrow(x, "wouldAsk(-1, 0)", Check.NO_SUCH, () -> x.wouldAsk(-1, 0));
        Check.dueThrow(x, "wouldAsk(2, 0)", Check.NO_SUCH, () -> x.wouldAsk(2, 0));
        Check.dueThrow(x, "wouldAsk(0, -1)", Check.NO_SUCH, () -> x.wouldAsk(0, -1));
        Check.dueThrow(x, "wouldAsk(0, 3)", Check.NO_SUCH, () -> x.wouldAsk(0, 3));
        ClockLots y = Check.loaded("Lb992v00500q012c");
        Check.due("over", y.about(2), 1);
        Check.due("wouldAsk when it is over", y.wouldAsk(0, 0), 2);
        Check.due("wouldAsk when it is over", y.wouldAsk(0, 1), 0);
    }

    private static void rounds() {
        ClockLots x = Check.loaded("Lb992b992v00012v10012v01050");
        Check.due("roundsLeft()", x.roundsLeft(), 3);
        Check.due("endPrice(0)", x.endPrice(0), 12);
        Check.due("endPrice(1)", x.endPrice(1), 10);
        Check.due("roundsLeft changes nothing", x.about(1) + x.about(5), 0);
        Check.dueThrow(x, "endPrice(-1)", Check.NO_SUCH, () -> x.endPrice(-1));
        Check.dueThrow(x, "endPrice(3)", Check.NO_SUCH, () -> x.endPrice(3));
        x.bid(0);
        x.bid(1);
        x.close();
        Check.due("roundsLeft() behind a round", x.roundsLeft(), 2);
        x.set(1, 50);
        Check.due("roundsLeft() with another step", x.roundsLeft(), 2);
        Check.due("endPrice(0) with another step", x.endPrice(0), 16);
        x.ask(0, 0, 0);
        x.ask(1, 0, 0);
        x.close();
        Check.due("over", x.about(2), 1);
        Check.due("roundsLeft() when it is over", x.roundsLeft(), 0);
        Check.due("endPrice(0) when it is over", x.endPrice(0), 11);
    }

    private static void noBidders() {
        ClockLots x = new ClockLots();
        Check.due("roundsLeft() without bidders", x.roundsLeft(), 1);
        Check.due("endPrice(2) without bidders", x.endPrice(2), 10);
    }

    /** The price rises by 1 a round from 1 on, up to the value. */
    private static ClockLots slow(int value) {
        ClockLots x = Check.loaded("Lb992b992");
        x.price(0, 1);
        x.set(1, 1);
        x.value(0, 0, value);
        x.value(1, 0, value);
        return x;
    }

    private static void moreThan200() {
        Check.due("roundsLeft() of 199", slow(199).roundsLeft(), 199);
        Check.due("roundsLeft() of 200", slow(200).roundsLeft(), 200);
        Check.due("endPrice(0) behind 200", slow(200).endPrice(0), 200);
        Check.due("roundsLeft() of 201", slow(201).roundsLeft(), -1);
        Check.due("endPrice(0) that is not the end", slow(99999).endPrice(0), 202);
    }
}
