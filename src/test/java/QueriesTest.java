/** Promises 6 to 11: what there is. */
public final class QueriesTest {
    public static void main(String[] args) {
        ClockLots x = open();
        about(x);
        kind(x);
        bidder(x);
        demand(x);
        pack();
        setting();
        Check.end();
    }

    private static ClockLots open() {
        ClockLots x = new ClockLots();
        x.offer(0, 3, 2);
        x.offer(2, 1, 9);
        x.price(0, 7);
        x.price(1, 100);
        x.join(40, 3);
        x.join(99, 9);
        x.join(0, 1);
        x.value(0, 0, 5);
        x.value(0, 1, 130);
        x.ask(0, 0, 3);
        x.ask(0, 1, 2);
        x.ask(1, 0, 1);
        x.ask(1, 1, 1);
        x.ask(1, 2, 1);
        return x;
    }

    private static void about(ClockLots x) {
        Check.due("bidders", x.about(0), 3);
        Check.due("rounds", x.about(1), 0);
        Check.due("over", x.about(2), 0);
        Check.due("scarce kinds", x.about(3), 2);
        Check.due("packages", x.about(4), 0);
        Check.due("costs", x.about(5), 4 * 7 + 3 * 100 + 10);
        Check.dueThrow(x, "about(-1)", Check.BAD, () -> x.about(-1));
        Check.dueThrow(x, "about(6)", Check.BAD, () -> x.about(6));
        ClockLots y = Check.loaded("Lb999q001q011c");
        Check.due("rounds of an auction that is over", y.about(1), 1);
        Check.due("over", y.about(2), 1);
        y.add(0, 1, 0, 0, 10);
        y.add(0, 1, 1, 0, 20);
        Check.due("packages", y.about(4), 2);
        ClockLots z = Check.loaded("Lb999b999q001q101q011q111q112q022q122cc");
        Check.due("rounds of an auction that goes on", z.about(1), 2);
        Check.due("not over", z.about(2), 0);
        Check.due("just as much as there is is not more", z.about(3), 2);
    }

    private static void kind(ClockLots x) {
        Check.due("supply", x.kind(0, 0), 3);
        Check.due("points", x.kind(0, 1), 2);
        Check.due("price", x.kind(0, 2), 7);
        Check.due("demands", x.kind(0, 3), 4);
        Check.due("supply", x.kind(2, 0), 1);
        Check.due("points", x.kind(2, 1), 9);
        Check.due("price", x.kind(2, 2), 10);
        Check.due("demands", x.kind(2, 3), 1);
        Check.dueThrow(x, "kind(-1, 0)", Check.NO_SUCH, () -> x.kind(-1, 0));
        Check.dueThrow(x, "kind(3, 0)", Check.NO_SUCH, () -> x.kind(3, 0));
        Check.dueThrow(x, "kind(3, 4)", Check.NO_SUCH, () -> x.kind(3, 4));
        Check.dueThrow(x, "kind(0, -1)", Check.BAD, () -> x.kind(0, -1));
        Check.dueThrow(x, "kind(0, 4)", Check.BAD, () -> x.kind(0, 4));
    }

    private static void bidder(ClockLots x) {
        Check.due("right", x.bidder(0, 0), 40);
        Check.due("cap", x.bidder(0, 1), 3);
        Check.due("activity", x.bidder(0, 2), 8);
        Check.due("packages", x.bidder(0, 3), 0);
        Check.due("profit", x.bidder(0, 4), 3 * (5 - 7) + 2 * (130 - 100));
        Check.due("activity", x.bidder(1, 2), 12);
        Check.due("profit", x.bidder(1, 4), -7 - 100 - 10);
        Check.due("right", x.bidder(2, 0), 0);
        Check.due("profit of nothing", x.bidder(2, 4), 0);
        Check.dueThrow(x, "bidder(-1, 0)", Check.NO_SUCH, () -> x.bidder(-1, 0));
        Check.dueThrow(x, "bidder(3, 0)", Check.NO_SUCH, () -> x.bidder(3, 0));
        Check.dueThrow(x, "bidder(3, 5)", Check.NO_SUCH, () -> x.bidder(3, 5));
        Check.dueThrow(x, "bidder(0, -1)", Check.BAD, () -> x.bidder(0, -1));
        Check.dueThrow(x, "bidder(0, 5)", Check.BAD, () -> x.bidder(0, 5));
        ClockLots y = Check.loaded("Lb999q001q011c");
        y.add(0, 1, 0, 0, 10);
        Check.due("packages", y.bidder(0, 3), 1);
    }

    private static void demand(ClockLots x) {
        Check.due("demand(0, 0)", x.demand(0, 0), 3);
        Check.due("demand(0, 1)", x.demand(0, 1), 2);
        Check.due("demand(0, 2)", x.demand(0, 2), 0);
        Check.due("demand(1, 2)", x.demand(1, 2), 1);
        Check.dueThrow(x, "demand(-1, 0)", Check.NO_SUCH, () -> x.demand(-1, 0));
        Check.dueThrow(x, "demand(3, 0)", Check.NO_SUCH, () -> x.demand(3, 0));
        Check.dueThrow(x, "demand(0, -1)", Check.NO_SUCH, () -> x.demand(0, -1));
        Check.dueThrow(x, "demand(0, 3)", Check.NO_SUCH, () -> x.demand(0, 3));
    }

    private static void pack() {
        ClockLots x = Check.loaded("Lb999b999b999q001q012q101q122c");
        x.add(1, 0, 1, 2, 345);
        Check.due("package 0, kind 0", x.pack(0, 0, 0), 1);
        Check.due("package 0, kind 1", x.pack(0, 0, 1), 2);
        Check.due("package 0, kind 2", x.pack(0, 0, 2), 0);
        Check.due("package 0, value", x.pack(0, 0, 3), 30);
        Check.due("empty package 0, value", x.pack(2, 0, 3), 0);
        Check.due("package 1, kind 0", x.pack(1, 1, 0), 0);
        Check.due("package 1, kind 1", x.pack(1, 1, 1), 1);
        Check.due("package 1, kind 2", x.pack(1, 1, 2), 2);
        Check.due("package 1, value", x.pack(1, 1, 3), 345);
        Check.dueThrow(x, "pack(-1, 0, 0)", Check.NO_SUCH, () -> x.pack(-1, 0, 0));
        Check.dueThrow(x, "pack(3, 0, 0)", Check.NO_SUCH, () -> x.pack(3, 0, 0));
        Check.dueThrow(x, "pack(0, -1, 0)", Check.NO_SUCH, () -> x.pack(0, -1, 0));
        Check.dueThrow(x, "pack(0, 1, 0)", Check.NO_SUCH, () -> x.pack(0, 1, 0));
        Check.dueThrow(x, "pack(1, 2, 0)", Check.NO_SUCH, () -> x.pack(1, 2, 0));
        Check.dueThrow(x, "pack(1, 2, 4)", Check.NO_SUCH, () -> x.pack(1, 2, 4));
        Check.dueThrow(x, "pack(1, 1, -1)", Check.BAD, () -> x.pack(1, 1, -1));
        Check.dueThrow(x, "pack(1, 1, 4)", Check.BAD, () -> x.pack(1, 1, 4));
    }

    private static void setting() {
        ClockLots x = new ClockLots();
        x.set(0, 60);
        x.set(1, 25);
        Check.due("setting(0)", x.setting(0), 60);
        Check.due("setting(1)", x.setting(1), 25);
        Check.dueThrow(x, "setting(-1)", Check.BAD, () -> x.setting(-1));
        Check.dueThrow(x, "setting(2)", Check.BAD, () -> x.setting(2));
    }
}
