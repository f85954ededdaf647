/** Promises 23 to 27: the best assignment. */
public final class BestTest {
    public static void main(String[] args) {
        nobody();
        notOver();
        packages();
        lowerPackage();
        equalBidders();
        wrongInputs();
        Check.end();
    }

    private static void nobody() {
        ClockLots x = new ClockLots();
        Check.due("best() without bidders", x.best(), 0);
        Check.due("leastMissed() without bidders", x.leastMissed(), -1);
        Check.due("oneMore(0) without bidders", x.oneMore(0), 0);
        x.join(5, 5);
        Check.due("best() without demands", x.best(), 0);
        Check.due("gets(0) without demands", x.gets(0), -1);
        Check.due("pays(0) without demands", x.pays(0), 0);
        Check.due("leastMissed() of one", x.leastMissed(), 0);
    }

    private static void notOver() {
        ClockLots x = Check.loaded("Lb999b999b999q002q102q011q112q222");
        x.price(1, 50);
        Check.due("best() while it is not over", x.best(), 20 + 100 + 20);
        Check.due("gets(0)", x.gets(0), -1);
        Check.due("gets(1)", x.gets(1), 0);
        Check.due("gets(2)", x.gets(2), 0);
        Check.due("pays(0)", x.pays(0), 0);
        Check.due("pays(1)", x.pays(1), 70);
        Check.due("pays(2)", x.pays(2), 0);
        Check.due("leastMissed()", x.leastMissed(), 0);
        Check.due("oneMore(0) that is too little", x.oneMore(0), 0);
    }

    /** Each of three bidders asks for the only lot of one kind and may have twice the points. */
    private static ClockLots three() {
        ClockLots x = new ClockLots();
        for (int k = 0; k < 3; k++) {
            x.offer(k, 1, 1);
        }
        x.set(0, 50);
        for (int b = 0; b < 3; b++) {
            x.join(9, 3);
            x.ask(b, b, 1);
        }
        x.close();
        return x;
    }

    private static void packages() {
        ClockLots x = three();
        x.add(0, 1, 1, 0, 100);
        x.add(1, 0, 1, 0, 55);
        x.add(2, 1, 0, 0, 60);
        Check.due("best()", x.best(), 115);
        Check.due("gets(0)", x.gets(0), -1);
        Check.due("gets(1)", x.gets(1), 1);
        Check.due("gets(2)", x.gets(2), 1);
        Check.due("pays(0)", x.pays(0), 0);
        Check.due("pays(1)", x.pays(1), 110 - 60);
        Check.due("pays(2)", x.pays(2), 100 - 55);
        Check.due("leastMissed()", x.leastMissed(), 0);
        Check.due("oneMore(0)", x.oneMore(0), 160 - 115);
        Check.due("oneMore(1)", x.oneMore(1), 165 - 115);
        Check.due("oneMore(2)", x.oneMore(2), 0);
        x.add(0, 1, 1, 0, 300);
        Check.due("best() with a greater package", x.best(), 310);
        Check.due("gets(0) with a greater package", x.gets(0), 2);
        Check.due("gets(1) with a greater package", x.gets(1), -1);
        Check.due("gets(2) with a greater package", x.gets(2), 0);
        Check.due("pays(0) with a greater package", x.pays(0), 115 - 10);
        Check.due("pays(2) with a greater package", x.pays(2), 0);
        Check.due("leastMissed() with a greater package", x.leastMissed(), 1);
    }

    private static void lowerPackage() {
        ClockLots x = three();
        x.add(0, 1, 0, 0, 10);
        Check.due("best()", x.best(), 30);
        Check.due("the package 0 before the package 1", x.gets(0), 0);
        x.add(1, 0, 1, 0, 50);
        x.add(1, 0, 1, 0, 50);
        Check.due("the package 1 before the package 2", x.gets(1), 1);
        x.add(1, 0, 1, 0, 51);
        Check.due("the greater value before the lower package", x.gets(1), 3);
        Check.due("pays(1) for what nobody else wants", x.pays(1), 0);
    }

    private static void equalBidders() {
        ClockLots x = new ClockLots();
        x.set(0, 50);
        for (int b = 0; b < 2; b++) {
            x.join(9, 3);
            x.ask(b, 0, 1);
        }
        x.close();
        x.add(0, 2, 0, 0, 100);
        x.add(1, 2, 0, 0, 100);
        Check.due("best() of equals", x.best(), 100);
        Check.due("the bidder 0 gets nothing", x.gets(0), -1);
        Check.due("the bidder 1 gets its package", x.gets(1), 1);
        Check.due("pays(1)", x.pays(1), 100);
        Check.due("leastMissed() of equals", x.leastMissed(), 0);
        Check.due("oneMore(0)", x.oneMore(0), 10);
    }

    private static void wrongInputs() {
        ClockLots x = Check.loaded("Lb999b999");
        Check.dueThrow(x, "gets(-1)", Check.NO_SUCH, () -> x.gets(-1));
        Check.dueThrow(x, "gets(2)", Check.NO_SUCH, () -> x.gets(2));
        Check.dueThrow(x, "pays(-1)", Check.NO_SUCH, () -> x.pays(-1));
        Check.dueThrow(x, "pays(2)", Check.NO_SUCH, () -> x.pays(2));
        Check.dueThrow(x, "oneMore(-1)", Check.NO_SUCH, () -> x.oneMore(-1));
        Check.dueThrow(x, "oneMore(3)", Check.NO_SUCH, () -> x.oneMore(3));
        ClockLots y = new ClockLots();
        Check.dueThrow(y, "gets(0) without bidders", Check.NO_SUCH, () -> y.gets(0));
        Check.dueThrow(y, "pays(0) without bidders", Check.NO_SUCH, () -> y.pays(0));
    }
}
