/** Promises 12 to 22: the actions. */
public final class ActionsTest {
    public static void main(String[] args) {
        offer();
        price();
        join();
        value();
        ask();
        bid();
        bidTies();
        close();
        closeAtTheBound();
        add();
        addWithinEachKind();
        addForAll();
        drop();
        set();
        undo();
        undoTakesBackAll();
        noActionIsRemembered();
        Check.end();
    }

    private static void offer() {
        ClockLots x = new ClockLots();
        Check.due("offer(1, 9, 9)", x.offer(1, 9, 9), 2);
        Check.due("offer(1, 1, 1)", x.offer(1, 1, 1), 9);
        Check.due("offer(1, 3, 4)", x.offer(1, 3, 4), 1);
        Check.due("supply", x.kind(1, 0), 3);
        Check.due("points", x.kind(1, 1), 4);
        Check.due("another supply", x.kind(0, 0), 2);
        Check.dueThrow(x, "offer(-1, 1, 1)", Check.NO_SUCH, () -> x.offer(-1, 1, 1));
        Check.dueThrow(x, "offer(3, 0, 0)", Check.NO_SUCH, () -> x.offer(3, 0, 0));
        Check.dueThrow(x, "offer(0, 0, 1)", Check.BAD, () -> x.offer(0, 0, 1));
        Check.dueThrow(x, "offer(0, 10, 1)", Check.BAD, () -> x.offer(0, 10, 1));
        Check.dueThrow(x, "offer(0, 1, 0)", Check.BAD, () -> x.offer(0, 1, 0));
        Check.dueThrow(x, "offer(0, 1, 10)", Check.BAD, () -> x.offer(0, 1, 10));
        x.join(5, 5);
        Check.dueThrow(x, "offer with a bidder", Check.NOT_NOW, () -> x.offer(0, 1, 1));
        Check.dueThrow(x, "offer(0, 0, 1) with a bidder", Check.BAD, () -> x.offer(0, 0, 1));
        x.undo();
        x.close();
        Check.dueThrow(x, "offer behind a round", Check.NOT_NOW, () -> x.offer(0, 1, 1));
        Check.dueThrow(x, "offer(3, 1, 1) behind a round", Check.NO_SUCH, () -> x.offer(3, 1, 1));
    }

    private static void price() {
        ClockLots x = new ClockLots();
        Check.due("price(2, 99999)", x.price(2, 99999), 10);
        Check.due("price(2, 1)", x.price(2, 1), 99999);
        Check.due("price", x.kind(2, 2), 1);
        x.join(9, 9);
        Check.due("price with a bidder", x.price(2, 50), 1);
        Check.dueThrow(x, "price(-1, 1)", Check.NO_SUCH, () -> x.price(-1, 1));
        Check.dueThrow(x, "price(3, 0)", Check.NO_SUCH, () -> x.price(3, 0));
        Check.dueThrow(x, "price(0, 0)", Check.BAD, () -> x.price(0, 0));
        Check.dueThrow(x, "price(0, 100000)", Check.BAD, () -> x.price(0, 100000));
        x.close();
        Check.dueThrow(x, "price behind a round", Check.NOT_NOW, () -> x.price(0, 1));
        Check.dueThrow(x, "price(0, 0) behind a round", Check.BAD, () -> x.price(0, 0));
    }

    private static void join() {
        ClockLots x = new ClockLots();
        Check.dueThrow(x, "join(-1, 1)", Check.BAD, () -> x.join(-1, 1));
        Check.dueThrow(x, "join(100, 1)", Check.BAD, () -> x.join(100, 1));
        Check.dueThrow(x, "join(1, 0)", Check.BAD, () -> x.join(1, 0));
        Check.dueThrow(x, "join(1, 10)", Check.BAD, () -> x.join(1, 10));
        Check.due("join(0, 1)", x.join(0, 1), 0);
        Check.due("join(99, 9)", x.join(99, 9), 1);
        Check.due("right", x.bidder(1, 0), 99);
        Check.due("cap", x.bidder(1, 1), 9);
        for (int b = 2; b < 6; b++) {
            Check.due("join(1, 1)", x.join(1, 1), b);
        }
        Check.dueThrow(x, "join as the seventh", Check.NOT_NOW, () -> x.join(1, 1));
        Check.dueThrow(x, "join(1, 0) as the seventh", Check.BAD, () -> x.join(1, 0));
        ClockLots y = new ClockLots();
        y.close();
        Check.dueThrow(y, "join behind a round", Check.NOT_NOW, () -> y.join(1, 1));
        ClockLots z = new ClockLots();
        z.join(5, 5);
        z.value(0, 1, 77);
        z.ask(0, 2, 1);
        z.undo();
        z.undo();
        z.undo();
        z.join(4, 4);
        Check.due("a new bidder's value", z.value(0, 1, 0), 0);
        Check.due("a new bidder's demand", z.demand(0, 2), 0);
    }

    private static void value() {
        ClockLots x = new ClockLots();
        x.join(5, 5);
        x.join(5, 5);
        Check.due("value(1, 2, 99999)", x.value(1, 2, 99999), 0);
        Check.due("value(1, 2, 0)", x.value(1, 2, 0), 99999);
        Check.due("value(1, 2, 5)", x.value(1, 2, 5), 0);
        Check.due("value(0, 2, 6)", x.value(0, 2, 6), 0);
        Check.due("value(1, 1, 7)", x.value(1, 1, 7), 0);
        Check.dueThrow(x, "value(-1, 0, 0)", Check.NO_SUCH, () -> x.value(-1, 0, 0));
        Check.dueThrow(x, "value(2, 0, 0)", Check.NO_SUCH, () -> x.value(2, 0, 0));
        Check.dueThrow(x, "value(0, -1, 0)", Check.NO_SUCH, () -> x.value(0, -1, 0));
        Check.dueThrow(x, "value(0, 3, -1)", Check.NO_SUCH, () -> x.value(0, 3, -1));
        Check.dueThrow(x, "value(0, 0, -1)", Check.BAD, () -> x.value(0, 0, -1));
        Check.dueThrow(x, "value(0, 0, 100000)", Check.BAD, () -> x.value(0, 0, 100000));
        x.close();
        Check.due("value when it is over", x.value(1, 2, 8), 5);
    }

    private static void ask() {
        ClockLots x = new ClockLots();
        x.offer(0, 9, 2);
        x.offer(1, 3, 3);
        x.offer(2, 2, 5);
        x.join(24, 5);
        Check.due("ask(0, 0, 5)", x.ask(0, 0, 5), 10);
        Check.due("ask(0, 1, 3)", x.ask(0, 1, 3), 19);
        Check.due("ask(0, 2, 1)", x.ask(0, 2, 1), 24);
        Check.due("demand", x.demand(0, 1), 3);
        Check.dueThrow(x, "ask above the right", Check.NOT_NOW, () -> x.ask(0, 2, 2));
        Check.due("ask(0, 0, 0)", x.ask(0, 0, 0), 14);
        Check.due("ask(0, 0, 0) again", x.ask(0, 0, 0), 14);
        Check.due("ask(0, 1, 0)", x.ask(0, 1, 0), 5);
        Check.dueThrow(x, "ask above the cap", Check.NOT_NOW, () -> x.ask(0, 0, 6));
        Check.dueThrow(x, "ask above the supply", Check.NOT_NOW, () -> x.ask(0, 1, 4));
        Check.dueThrow(x, "ask(-1, 0, 0)", Check.NO_SUCH, () -> x.ask(-1, 0, 0));
        Check.dueThrow(x, "ask(1, 0, 0)", Check.NO_SUCH, () -> x.ask(1, 0, 0));
        Check.dueThrow(x, "ask(0, -1, 0)", Check.NO_SUCH, () -> x.ask(0, -1, 0));
        Check.dueThrow(x, "ask(0, 3, 10)", Check.NO_SUCH, () -> x.ask(0, 3, 10));
        Check.dueThrow(x, "ask(0, 0, -1)", Check.BAD, () -> x.ask(0, 0, -1));
        Check.dueThrow(x, "ask(0, 0, 10)", Check.BAD, () -> x.ask(0, 0, 10));
        x.close();
        Check.dueThrow(x, "ask when it is over", Check.NOT_NOW, () -> x.ask(0, 0, 0));
        Check.dueThrow(x, "ask(0, 0, 10) when it is over", Check.BAD, () -> x.ask(0, 0, 10));
        ClockLots z = Check.loaded("Ls091b999");
        Check.due("ask(0, 0, 9)", z.ask(0, 0, 9), 9);
        ClockLots y = Check.loaded("Lb999b999q002q102c");
        Check.due("ask behind a round", y.ask(0, 0, 1), 1);
        Check.dueThrow(y, "ask above the kept right", Check.NOT_NOW, () -> y.ask(1, 1, 1));
    }

    private static void bid() {
        ClockLots x = new ClockLots();
        x.offer(0, 4, 3);
        x.offer(1, 5, 2);
        x.join(13, 4);
        x.value(0, 0, 40);
        x.value(0, 1, 25);
        Check.due("bid(0)", x.bid(0), 3 * 30 + 2 * 15);
        Check.due("demand(0, 0)", x.demand(0, 0), 3);
        Check.due("demand(0, 1)", x.demand(0, 1), 2);
        Check.due("demand(0, 2)", x.demand(0, 2), 0);
        x.value(0, 2, 17);
        Check.due("bid(0) with the kind 2", x.bid(0), 4 * 30 + 7);
        Check.due("demand(0, 0)", x.demand(0, 0), 4);
        Check.due("demand(0, 2)", x.demand(0, 2), 1);
        x.value(0, 0, 0);
        x.value(0, 1, 9);
        x.value(0, 2, 10);
        Check.due("bid(0) without profit", x.bid(0), 0);
        Check.due("activity without profit", x.bidder(0, 2), 0);
        Check.dueThrow(x, "bid(-1)", Check.NO_SUCH, () -> x.bid(-1));
        Check.dueThrow(x, "bid(1)", Check.NO_SUCH, () -> x.bid(1));
        x.close();
        Check.dueThrow(x, "bid when it is over", Check.NOT_NOW, () -> x.bid(0));
        Check.dueThrow(x, "bid(1) when it is over", Check.NO_SUCH, () -> x.bid(1));
        ClockLots y = Check.loaded("Ls091b993v00999v01999v02999");
        Check.due("bid within the cap and the supply", y.bid(0), (3 + 2 + 2) * 989);
        Check.due("demand within the cap", y.demand(0, 0), 3);
    }

    private static void bidTies() {
        ClockLots x = Check.loaded("Lb022v00020v01020v02020");
        Check.due("bid of several", x.bid(0), 20);
        Check.due("the smallest for the kind 0", x.demand(0, 0), 0);
        Check.due("then for the kind 1", x.demand(0, 1), 0);
        Check.due("then for the kind 2", x.demand(0, 2), 2);
        ClockLots y = Check.loaded("Lb032v00020v01020v02009");
        Check.due("bid of several", y.bid(0), 30);
        Check.due("the smallest for the kind 0", y.demand(0, 0), 1);
        Check.due("then for the kind 1", y.demand(0, 1), 2);
        ClockLots z = Check.loaded("Lb992v00010v01010v02010");
        Check.due("bid at the prices", z.bid(0), 0);
        Check.due("nothing for nothing", z.bidder(0, 2), 0);
    }

    private static void close() {
        ClockLots x = new ClockLots();
        x.price(0, 109);
        x.price(1, 5);
        x.join(99, 2);
        x.join(99, 2);
        x.join(3, 2);
        x.ask(0, 0, 2);
        x.ask(0, 1, 2);
        x.ask(1, 0, 1);
        x.ask(1, 1, 1);
        x.ask(1, 2, 2);
        x.ask(2, 2, 1);
        x.set(0, 70);
        Check.due("close()", x.close(), 3);
        Check.due("price(0)", x.kind(0, 2), 119);
        Check.due("price(1) rises by 1 at least", x.kind(1, 2), 6);
        Check.due("price(2)", x.kind(2, 2), 11);
        Check.due("right(0)", x.bidder(0, 0), 400 / 70);
        Check.due("right(1)", x.bidder(1, 0), 400 / 70);
        Check.due("right(2)", x.bidder(2, 0), 1);
        Check.due("demands stay", x.about(5), 3 * 119 + 3 * 6 + 3 * 11);
        x.ask(1, 0, 0);
        x.ask(1, 2, 1);
        x.set(1, 50);
        Check.due("close() again", x.close(), 1);
        Check.due("price(0) stays", x.kind(0, 2), 119);
        Check.due("price(1)", x.kind(1, 2), 9);
        Check.due("price(2) stays", x.kind(2, 2), 11);
        Check.due("right(0) stays", x.bidder(0, 0), 5);
        Check.due("right(1)", x.bidder(1, 0), 200 / 70);
        Check.due("not over", x.about(2), 0);
        x.ask(1, 1, 0);
        Check.due("the last close()", x.close(), 0);
        Check.due("right(1) in the last round", x.bidder(1, 0), 100 / 70);
        Check.due("over", x.about(2), 1);
        Check.due("rounds", x.about(1), 3);
        Check.dueThrow(x, "close() when it is over", Check.NOT_NOW, x::close);
        ClockLots y = Check.loaded("Ls092s195b999q009q012");
        Check.due("activity", y.ask(0, 1, 1), 23);
        y.set(0, 59);
        y.close();
        Check.due("a right rounded down", y.bidder(0, 0), 2300 / 59);
        Check.due("it is over without rising prices", y.about(2), 1);
    }

    private static void closeAtTheBound() {
        ClockLots x = Check.loaded("Lb992b992q002q102");
        x.price(0, 95000);
        Check.due("close() to the bound", x.close(), 1);
        Check.due("the bound", x.kind(0, 2), 99999);
        Check.due("close() at the bound", x.close(), 1);
        Check.due("the bound again", x.kind(0, 2), 99999);
        Check.due("not over at the bound", x.about(2), 0);
    }

    private static void add() {
        ClockLots x = new ClockLots();
        x.offer(0, 5, 2);
        x.offer(1, 3, 3);
        x.offer(2, 9, 1);
        x.join(20, 4);
        x.join(1, 4);
        x.ask(0, 0, 4);
        x.ask(0, 1, 3);
        x.ask(0, 2, 3);
        x.ask(1, 2, 1);
        Check.dueThrow(x, "add when it is not over", Check.NOT_NOW, () -> x.add(0, 1, 0, 0, 100));
        x.close();
        Check.dueThrow(x, "add(-1, ..)", Check.NO_SUCH, () -> x.add(-1, 1, 0, 0, 100));
        Check.dueThrow(x, "add(2, .. 0)", Check.NO_SUCH, () -> x.add(2, 10, 0, 0, 0));
        Check.dueThrow(x, "add a0 -1", Check.BAD, () -> x.add(0, -1, 1, 0, 100));
        Check.dueThrow(x, "add a0 10", Check.BAD, () -> x.add(0, 10, 0, 0, 100));
        Check.dueThrow(x, "add a1 -1", Check.BAD, () -> x.add(0, 1, -1, 0, 100));
        Check.dueThrow(x, "add a1 10", Check.BAD, () -> x.add(0, 0, 10, 0, 100));
        Check.dueThrow(x, "add a2 -1", Check.BAD, () -> x.add(0, 1, 0, -1, 100));
        Check.dueThrow(x, "add a2 10", Check.BAD, () -> x.add(0, 0, 0, 10, 100));
        Check.dueThrow(x, "add for 0", Check.BAD, () -> x.add(0, 1, 0, 0, 0));
        Check.dueThrow(x, "add for 1000000", Check.BAD, () -> x.add(0, 1, 0, 0, 1000000));
        Check.dueThrow(x, "add no lots", Check.NOT_NOW, () -> x.add(0, 0, 0, 0, 100));
        Check.dueThrow(x, "add above the supply", Check.NOT_NOW, () -> x.add(0, 0, 4, 0, 100));
        Check.dueThrow(x, "add above the cap for 0", Check.NOT_NOW, () -> x.add(0, 5, 0, 0, 100));
        Check.dueThrow(x, "add above the cap for 2", Check.NOT_NOW, () -> x.add(0, 0, 0, 5, 100));
        Check.dueThrow(x, "add above the right", Check.NOT_NOW, () -> x.add(0, 4, 3, 4, 999));
        Check.dueThrow(x, "add above another right", Check.NOT_NOW, () -> x.add(1, 1, 0, 0, 100));
        Check.dueThrow(x, "add below the prices", Check.NOT_NOW, () -> x.add(0, 1, 1, 1, 29));
        Check.due("add at the prices", x.add(0, 1, 1, 1, 30), 1);
        Check.due("add at the right", x.add(0, 4, 3, 3, 999999), 2);
        Check.due("add the same", x.add(0, 1, 1, 1, 30), 3);
        Check.dueThrow(x, "add a fourth", Check.NOT_NOW, () -> x.add(0, 1, 1, 1, 30));
        Check.dueThrow(x, "add a0 10 as a fourth", Check.BAD, () -> x.add(0, 10, 1, 1, 30));
        Check.due("add for another", x.add(1, 0, 0, 1, 10), 1);
        Check.due("its lots", x.pack(0, 2, 0), 4);
        Check.due("its lots", x.pack(0, 2, 1), 3);
        Check.due("its lots", x.pack(0, 2, 2), 3);
        Check.due("its value", x.pack(0, 2, 3), 999999);
    }

    /** What is too much for just one kind, by the cap and by the supply. */
    private static void addWithinEachKind() {
        ClockLots x = Check.loaded("Ls041s121s231b993q003q012q023c");
        for (int k = 0; k < 3; k++) {
            int supply = x.kind(k, 0);
            int most = Math.min(3, supply);
            int[] a = new int[3];
            a[k] = most + 1;
            Check.dueThrow(x, "add too many of the kind " + k, Check.NOT_NOW, () -> x.add(0, a[0], a[1], a[2], 999));
            int[] c = new int[3];
            c[k] = most;
            Check.due("add as many as allowed of the kind " + k, x.add(0, c[0], c[1], c[2], 999), k + 1);
        }
        ClockLots y = new ClockLots();
        y.price(0, 1);
        y.join(9, 9);
        y.ask(0, 0, 2);
        y.ask(0, 1, 1);
        y.ask(0, 2, 1);
        y.close();
        Check.due("add for 1", y.add(0, 1, 0, 0, 1), 1);
        Check.due("add of the kinds 0 and 2", y.add(0, 1, 0, 1, 11), 2);
        Check.due("add of the kinds 1 and 2", y.add(0, 0, 1, 1, 20), 3);
    }

    /** Six bidders with three packages each: every row is used. */
    private static void addForAll() {
        ClockLots x = Check.loaded("Ls091s191s291b999b999b999b999b999b999q001q101q201q301q401q501c");
        for (int b = 0; b < 6; b++) {
            for (int i = 1; i <= 3; i++) {
                int[] a = new int[3];
                a[(b + i) % 3] = 1;
                Check.due("add", x.add(b, a[0], a[1], a[2], 100 * b + 10 * i), i);
            }
        }
        for (int b = 0; b < 6; b++) {
            for (int i = 1; i <= 3; i++) {
                Check.due("value", x.pack(b, i, 3), 100 * b + 10 * i);
                Check.due("lots", x.pack(b, i, (b + i) % 3), 1);
                Check.due("no lots", x.pack(b, i, (b + i + 1) % 3) + x.pack(b, i, (b + i + 2) % 3), 0);
            }
        }
        Check.due("all packages", x.about(4), 18);
    }

    private static void drop() {
        ClockLots x = Check.loaded("Lb999b999q002q012q022w1c");
        x.add(0, 1, 0, 0, 11);
        x.add(0, 1, 1, 0, 22);
        x.add(0, 1, 1, 1, 33);
        Check.dueThrow(x, "drop(-1, 1)", Check.NO_SUCH, () -> x.drop(-1, 1));
        Check.dueThrow(x, "drop(2, 1)", Check.NO_SUCH, () -> x.drop(2, 1));
        Check.dueThrow(x, "drop(0, 0)", Check.NO_SUCH, () -> x.drop(0, 0));
        Check.dueThrow(x, "drop(0, -1)", Check.NO_SUCH, () -> x.drop(0, -1));
        Check.dueThrow(x, "drop(0, 4)", Check.NO_SUCH, () -> x.drop(0, 4));
        Check.dueThrow(x, "drop(1, 1)", Check.NO_SUCH, () -> x.drop(1, 1));
        Check.due("drop(0, 1)", x.drop(0, 1), 2);
        Check.due("value of the package 1", x.pack(0, 1, 3), 22);
        Check.due("lots of the package 1", x.pack(0, 1, 1), 1);
        Check.due("lots of the package 1", x.pack(0, 1, 2), 0);
        Check.due("value of the package 2", x.pack(0, 2, 3), 33);
        Check.due("lots of the package 2", x.pack(0, 2, 2), 1);
        Check.dueThrow(x, "drop(0, 3)", Check.NO_SUCH, () -> x.drop(0, 3));
        x.undo();
        Check.due("value behind undo", x.pack(0, 1, 3), 11);
        Check.due("lots behind undo", x.pack(0, 1, 1), 0);
        Check.due("lots behind undo", x.pack(0, 2, 1), 1);
        Check.due("lots behind undo", x.pack(0, 3, 2), 1);
        Check.due("value behind undo", x.pack(0, 3, 3), 33);
        Check.due("drop(0, 1) again", x.drop(0, 1), 2);
        Check.due("drop(0, 2)", x.drop(0, 2), 1);
        Check.due("value of the package 1", x.pack(0, 1, 3), 22);
        Check.due("add behind a drop", x.add(0, 2, 0, 0, 44), 2);
        Check.due("drop(0, 1)", x.drop(0, 1), 1);
        Check.due("lots of the package 1", x.pack(0, 1, 0), 2);
        Check.due("lots of the package 1", x.pack(0, 1, 1), 0);
        Check.due("lots of the package 0", x.pack(0, 0, 0), 2);
        Check.due("drop(0, 1)", x.drop(0, 1), 0);
        Check.dueThrow(x, "drop(0, 1) without packages", Check.NO_SUCH, () -> x.drop(0, 1));
    }

    private static void set() {
        ClockLots x = new ClockLots();
        Check.due("set(0, 50)", x.set(0, 50), 100);
        Check.due("set(0, 100)", x.set(0, 100), 50);
        Check.due("set(1, 50)", x.set(1, 50), 10);
        Check.due("set(1, 1)", x.set(1, 1), 50);
        Check.due("setting(0)", x.setting(0), 100);
        Check.due("setting(1)", x.setting(1), 1);
        Check.dueThrow(x, "set(0, 49)", Check.BAD, () -> x.set(0, 49));
        Check.dueThrow(x, "set(0, 101)", Check.BAD, () -> x.set(0, 101));
        Check.dueThrow(x, "set(1, 0)", Check.BAD, () -> x.set(1, 0));
        Check.dueThrow(x, "set(1, 51)", Check.BAD, () -> x.set(1, 51));
        Check.dueThrow(x, "set(-1, 50)", Check.BAD, () -> x.set(-1, 50));
        Check.dueThrow(x, "set(2, 50)", Check.BAD, () -> x.set(2, 50));
        x.close();
        Check.due("set when it is over", x.set(1, 7), 1);
    }

    private static void undo() {
        ClockLots x = new ClockLots();
        Check.dueThrow(x, "undo of nothing", Check.NOT_NOW, x::undo);
        for (int i = 1; i <= 20; i++) {
            x.price(0, 100 + i);
        }
        for (int left = 13; left >= 0; left--) {
            Check.due("undo()", x.undo(), left);
            Check.due("price behind undo()", x.kind(0, 2), 100 + 6 + left);
        }
        Check.dueThrow(x, "undo of the forgotten", Check.NOT_NOW, x::undo);
        x.price(0, 106);
        x.price(0, 106);
        Check.due("undo of an action that changed nothing", x.undo(), 1);
        x.price(0, 7);
        Check.due("undo behind undo", x.undo(), 1);
        Check.due("price", x.kind(0, 2), 106);
    }

    private static void undoTakesBackAll() {
        ClockLots x = new ClockLots();
        String[] pictures = new String[14];
        Check.Call[] actions = {
            () -> x.offer(0, 3, 2), () -> x.price(1, 20), () -> x.join(30, 4), () -> x.join(31, 5),
            () -> x.value(0, 0, 66), () -> x.ask(1, 2, 2), () -> x.ask(1, 0, 3), () -> x.bid(0), () -> x.close(),
            () -> x.ask(1, 0, 0), () -> x.close(), () -> x.add(1, 0, 0, 1, 50), () -> x.drop(1, 1), () -> x.set(0, 90)
        };
        for (int i = 0; i < 14; i++) {
            pictures[i] = Check.picture(x).toString();
            actions[i].answer();
        }
        for (int i = 13; i >= 0; i--) {
            Check.due("undo()", x.undo(), i);
            Check.dueSame("the state before the action " + i, Check.picture(x).toString(), pictures[i]);
        }
    }

    /** Neither calls that throw nor calls that are no actions are remembered. */
    private static void noActionIsRemembered() {
        ClockLots x = new ClockLots();
        x.join(9, 9);
        Check.outcome(() -> x.join(100, 9));
        Check.outcome(() -> x.offer(0, 1, 1));
        Check.outcome(() -> x.price(0, 0));
        Check.outcome(() -> x.value(0, 0, -1));
        Check.outcome(() -> x.ask(0, 0, 9));
        Check.outcome(() -> x.bid(1));
        Check.outcome(() -> x.add(0, 1, 0, 0, 100));
        Check.outcome(() -> x.drop(0, 1));
        Check.outcome(() -> x.set(0, 1));
        Check.outcome(() -> x.append('L'));
        Check.outcome(() -> x.append(999));
        Check.picture(x);
        x.best();
        x.gets(0);
        x.pays(0);
        x.oneMore(0);
        x.leastMissed();
        x.roundsLeft();
        x.endPrice(0);
        x.runScript(1, 20000);
        x.simulate(1, 99);
        x.save(0);
        Check.due("undo()", x.undo(), 0);
        Check.due("bidders", x.about(0), 0);
    }
}
