/** Promises 31 and 32: scripts and simulations. */
public final class ScriptTest {
    public static void main(String[] args) {
        commands();
        digits();
        changesAdd();
        valueByTens();
        onACopy();
        wrongInputs();
        simulate();
        simulateCaps();
        Check.end();
    }

    private static void one(ClockLots x, int group, boolean succeeds) {
        Check.due("runScript(1, " + group + ")", x.runScript(1, group), succeeds ? -1 : 0);
    }

    private static void commands() {
        ClockLots x = Check.loaded("Lb101b992v00500q001");
        one(x, 10010, true);
        one(x, 10020, false);
        one(x, 11020, true);
        one(x, 11030, false);
        one(x, 10021, false);
        one(x, 12000, false);
        one(x, 10300, false);
        one(x, 20000, true);
        one(x, 21000, true);
        one(x, 22000, false);
        one(x, 20100, false);
        one(x, 20010, false);
        one(x, 20001, false);
        one(x, 30000, true);
        one(x, 31000, false);
        one(x, 30001, false);
        one(x, 40299, true);
        one(x, 40399, false);
        one(x, 42000, false);
        one(x, 50050, true);
        one(x, 50049, false);
        one(x, 51050, true);
        one(x, 51051, false);
        one(x, 51000, false);
        one(x, 51101, false);
        one(x, 52001, false);
        one(x, 60100, false);
        one(x, 70010, true);
        one(x, 70011, false);
        one(x, 72000, true);
        one(x, 73000, false);
        one(x, 80010, true);
        one(x, 80011, false);
        one(x, 80110, false);
        one(x, 81099, true);
        one(x, 82000, false);
        one(x, 90000, false);
        one(x, 0, false);
        one(x, 9999, false);
    }

    private static void digits() {
        ClockLots x = Check.loaded("Lb999q002c");
        x.add(0, 1, 0, 0, 30);
        one(x, 90000, true);
        one(x, 90001, false);
        one(x, 99000, false);
        one(x, 60100, true);
        one(x, 60000, false);
        one(x, 60200, false);
        one(x, 60101, false);
        one(x, 60110, false);
        one(x, 61100, false);
        one(x, 30000, false);
        one(x, 20000, false);
        one(x, 10000, false);
        Check.due("a group with zeros before it", x.runScript(2, 90000L), 0);
        Check.due("the first one is the highest", x.runScript(2, 9000090001L), 1);
        Check.due("the third one", x.runScript(3, 900009000099000L), 2);
        Check.due("all succeed", x.runScript(3, 900009000060100L), -1);
        Check.due("drop twice", x.runScript(2, 6010060100L), 1);
        ClockLots y = Check.loaded("Ls091b999");
        one(y, 10090, true);
        y.price(0, 999);
        one(y, 70999, true);
        one(y, 71999, false);
        Check.due("the first that fails", x.runScript(3, 900000000000000L), 1);
    }

    private static void changesAdd() {
        ClockLots x = Check.loaded("Lb992b992");
        Check.due("value, bid, close", x.runScript(3, 400032000030000L), -1);
        Check.due("close, over", x.runScript(2, 3000090000L), -1);
        Check.due("close, close", x.runScript(2, 3000030000L), 1);
        Check.due("close, then a right of 0", x.runScript(2, 3000080000L), -1);
        Check.due("close, then a right of 1", x.runScript(2, 3000080001L), 1);
        Check.due("ask, close, right", x.runScript(3, 100103000080001L), -1);
        ClockLots y = Check.loaded("Lb992b992v00099q002");
        Check.due("value is 10 * xy", y.runScript(3, 410022100030000L), -1);
        Check.due("price that rose", y.runScript(3, 100223000070011L), 0);
        Check.due("price that rose", y.runScript(3, 110203000070011L), -1);
        Check.due("price that rose by no more", y.runScript(3, 110203000070012L), 2);
        y.value(1, 0, 19);
        Check.due("value above the price", y.runScript(3, 410012100030000L), -1);
        Check.due("set, close, right", y.runScript(3, 500503000080004L), -1);
        Check.due("set, close, right", y.runScript(3, 500503000080005L), 2);
        ClockLots z = Check.loaded("Lb992b992q002");
        Check.due("a value of 10 gains nothing at 10", z.runScript(3, 410012100070011L), 2);
        Check.due("a value of 20 leads to a demand", z.runScript(3, 410022100030000L), -1);
    }

    /** Whether a value of 10 * 11 gains something tells what it is. */
    private static void valueByTens() {
        ClockLots x = Check.loaded("Lb022");
        x.price(0, 109);
        Check.due("110 gains something at 109", x.runScript(3, 400112000010110L), 2);
        x.price(0, 110);
        Check.due("110 gains nothing at 110", x.runScript(3, 400112000010110L), -1);
    }

    private static void onACopy() {
        ClockLots x = Check.loaded("Lb992b992q002v10500");
        String before = Check.picture(x).toString();
        x.runScript(3, 210003000050060L);
        x.runScript(3, 510203000090000L);
        x.simulate(77, 99);
        Check.dueSame("the state behind scripts and simulations", Check.picture(x).toString(), before);
        Check.dueThrow(x, "undo behind scripts and simulations", Check.NOT_NOW, x::undo);
    }

    private static void wrongInputs() {
        ClockLots x = new ClockLots();
        Check.dueThrow(x, "runScript(0, 0)", Check.BAD, () -> x.runScript(0, 0));
        Check.dueThrow(x, "runScript(4, 0)", Check.BAD, () -> x.runScript(4, 0));
        Check.dueThrow(x, "runScript(1, -1)", Check.BAD, () -> x.runScript(1, -1));
        Check.dueThrow(x, "runScript(1, 100000)", Check.BAD, () -> x.runScript(1, 100000));
        Check.dueThrow(x, "runScript(2, 10^10)", Check.BAD, () -> x.runScript(2, 10000000000L));
        Check.dueThrow(x, "runScript(3, 10^15)", Check.BAD, () -> x.runScript(3, 1000000000000000L));
        Check.dueThrow(x, "runScript(3, max)", Check.BAD, () -> x.runScript(3, Long.MAX_VALUE));
        Check.dueThrow(x, "runScript(3, min)", Check.BAD, () -> x.runScript(3, Long.MIN_VALUE));
        Check.due("runScript(1, 99999)", x.runScript(1, 99999), 0);
        Check.due("runScript(2, 9999999999)", x.runScript(2, 9999999999L), 0);
        Check.due("runScript(3, 10^15 - 1)", x.runScript(3, 999999999999999L), 0);
        Check.dueThrow(x, "simulate(1, 0)", Check.BAD, () -> x.simulate(1, 0));
        Check.dueThrow(x, "simulate(1, 100)", Check.BAD, () -> x.simulate(1, 100));
        Check.dueThrow(x, "simulate(1, -1)", Check.BAD, () -> x.simulate(1, -1));
    }

    private static final String[] STARTS = {
        "L", "Lb992", "Lb992b993b994v00050v10060q011", "Lb992b993q002q102c", "Lb992q001q011c",
        "Ls031s142b992b993b505b301b192b444v00050v10060v21077v32020v41050v52099"
    };

    private static void simulate() {
        long[] seeds = {0, 1, -1, 9, 123456789, Long.MIN_VALUE, Long.MAX_VALUE};
        for (String start : STARTS) {
            for (long seed : seeds) {
                for (int m = 1; m <= 99; m += 14) {
                    Check.due("simulate(" + seed + ", " + m + ") behind " + start,
                            Check.loaded(start).simulate(seed, m), played(start, seed, m));
                }
            }
        }
    }

    /** Supplies that do not bind, so that the caps do. */
    private static void simulateCaps() {
        String start = "Ls091s191s291";
        for (long seed = 1000; seed < 1400; seed++) {
            Check.due("simulate(" + seed + ", 40) behind " + start,
                    Check.loaded(start).simulate(seed, 40), played(start, seed, 40));
        }
    }

    /** The turns as calls of the methods, on an object of its own. */
    private static long played(String start, long seed, int m) {
        ClockLots x = Check.loaded(start);
        int before = x.about(1);
        long state = seed;
        for (int i = 0; i < m; i++) {
            state = state * 6364136223846793005L + 1442695040888963407L;
            int r = (int) (state >>> 33);
            Check.outcome(() -> turn(x, r));
        }
        return 1000L * (x.about(1) - before) + x.kind(0, 3) + x.kind(1, 3) + x.kind(2, 3);
    }

    private static long turn(ClockLots x, int r) {
        int b = r / 16 % Math.max(1, x.about(0));
        int k = r / 128 % 3;
        switch (r % 16) {
            case 0:
                return x.join(r / 16 % 20, 1 + r / 512 % 5);
            case 1: case 2: case 3:
                return x.value(b, k, r / 512 % 100);
            case 4: case 5: case 6:
                return x.ask(b, k, r / 512 % 4);
            case 7: case 8: case 9: case 10:
                return x.bid(b);
            case 11: case 12: case 13:
                return x.close();
            default:
                return x.add(b, r / 512 % 3, r / 2048 % 3, r / 8192 % 3, 1 + r / 32768 % 200);
        }
    }
}
