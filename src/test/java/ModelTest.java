import java.util.Random;

/** Promises 1 to 34: runs of calls on the class and on the plain model, which must answer the same. */
public final class ModelTest {
    private static final int MOST_CALLS = 512;

    private static Random random;
    private static ClockLots x;
    private static Model m;
    private static int calls;

    public static void main(String[] args) {
        int runs = args.length > 0 ? Integer.parseInt(args[0]) : 800;
        for (int run = 0; run < runs; run++) {
            random = new Random(run);
            x = new ClockLots();
            m = new Model();
            // A style of its own for each run, so that some stay open for long and some are soon over.
            int style = random.nextInt(6);
            calls = 0;
            for (int step = 0; step < MOST_CALLS && calls < MOST_CALLS; step++) {
                step("run " + run + " call " + calls + ": ", style);
                if (random.nextInt(64) == 0) {
                    all("run " + run + " call " + calls + ": ");
                }
            }
        }
        Check.end();
    }

    /** What an object answers behind 512 calls is free, so it is not asked any more then. */
    private static void same(String call, Check.Call got, Check.Call want) {
        if (calls >= MOST_CALLS) {
            return;
        }
        calls++;
        Check.due(call, Check.outcome(got), Check.outcome(want));
    }

    /** Mostly from low to high, now and then outside of it. */
    private static int some(int low, int high) {
        int kind = random.nextInt(40);
        return kind == 0 ? low - 1 : kind == 1 ? high + 1 : kind == 2 ? high : low + random.nextInt(high - low + 1);
    }

    private static int b() {
        return some(0, Math.max(0, m.about(0) - 1));
    }

    private static int k() {
        return some(0, 2);
    }

    private static void step(String at, int style) {
        int n = m.about(0);
        if (n < 2 + style && m.about(1) == 0 && random.nextInt(3) > 0) {
            start(at, style);
            return;
        }
        int what = random.nextInt(100);
        if (what < 45) {
            action(at, style);
        } else if (what < 70) {
            state(at);
        } else if (what < 86) {
            result(at);
        } else if (what < 92) {
            ahead(at);
        } else if (what < 96) {
            text(at);
        } else {
            slot(at);
        }
    }

    private static void start(String at, int style) {
        int k = k();
        int high = style % 2 == 0 ? 4 : 9;
        int a = some(1, high);
        int c = some(1, high);
        switch (random.nextInt(6)) {
            case 0:
                same(at + "offer(" + k + ", " + a + ", " + c + ")", () -> x.offer(k, a, c), () -> m.offer(k, a, c));
                break;
            case 1:
                int price = random.nextInt(9) == 0 ? some(90000, 99999) : some(1, 60);
                same(at + "price(" + k + ", " + price + ")", () -> x.price(k, price), () -> m.price(k, price));
                break;
            default:
                int right = random.nextBoolean() ? some(0, 99) : some(5, 30);
                same(at + "join(" + right + ", " + c + ")", () -> x.join(right, c), () -> m.join(right, c));
        }
    }

    private static void action(String at, int style) {
        int b = b();
        int k = k();
        switch (m.about(2) == 1 ? 7 + random.nextInt(9) : random.nextInt(style == 0 ? 16 : 11)) {
            case 0: case 1: case 2: {
                int v = random.nextInt(8) == 0 ? some(0, 99999) : some(0, 90);
                same(at + "value(" + b + ", " + k + ", " + v + ")", () -> x.value(b, k, v), () -> m.value(b, k, v));
                break;
            }
            case 3: case 4: {
                int n = random.nextInt(4) == 0 ? some(0, 9) : some(0, 3);
                same(at + "ask(" + b + ", " + k + ", " + n + ")", () -> x.ask(b, k, n), () -> m.ask(b, k, n));
                break;
            }
            case 5: case 6:
                same(at + "bid(" + b + ")", () -> x.bid(b), () -> m.bid(b));
                break;
            case 7:
                if (random.nextInt(3) == 0) {
                    same(at + "close()", x::close, m::close);
                } else {
                    int v = some(0, 90);
                    same(at + "value(" + b + ", " + k + ", " + v + ")", () -> x.value(b, k, v), () -> m.value(b, k, v));
                }
                break;
            case 8: {
                int what = some(0, 1);
                int v = what == 0 ? some(50, 100) : some(1, 50);
                same(at + "set(" + what + ", " + v + ")", () -> x.set(what, v), () -> m.set(what, v));
                break;
            }
            case 9:
                if (random.nextInt(3) == 0) {
                    same(at + "undo()", x::undo, m::undo);
                }
                break;
            case 10: {
                int i = some(0, 3);
                same(at + "drop(" + b + ", " + i + ")", () -> x.drop(b, i), () -> m.drop(b, i));
                break;
            }
            default: {
                int a0 = some(0, 2);
                int a1 = some(0, 2);
                int a2 = some(0, 2);
                int v = random.nextInt(9) == 0 ? some(1, 999999) : some(1, 400);
                same(at + "add(" + b + ", " + a0 + ", " + a1 + ", " + a2 + ", " + v + ")",
                        () -> x.add(b, a0, a1, a2, v), () -> m.add(b, a0, a1, a2, v));
            }
        }
    }

    private static void state(String at) {
        int b = b();
        int k = k();
        int what = some(0, 5);
        int i = some(0, 3);
        switch (random.nextInt(6)) {
            case 0:
                same(at + "about(" + what + ")", () -> x.about(what), () -> m.about(what));
                break;
            case 1:
                same(at + "kind(" + k + ", " + what + ")", () -> x.kind(k, what), () -> m.kind(k, what));
                break;
            case 2:
                same(at + "bidder(" + b + ", " + what + ")", () -> x.bidder(b, what), () -> m.bidder(b, what));
                break;
            case 3:
                same(at + "demand(" + b + ", " + k + ")", () -> x.demand(b, k), () -> m.demand(b, k));
                break;
            case 4:
                same(at + "pack(" + b + ", " + i + ", " + what + ")", () -> x.pack(b, i, what), () -> m.pack(b, i, what));
                break;
            default:
                same(at + "setting(" + i + ")", () -> x.setting(i), () -> m.setting(i));
        }
    }

    private static void all(String at) {
        for (int b = 0; b < m.about(0); b++) {
            for (int i = 0; i < 5; i++) {
                int one = b;
                int what = i;
                same(at + "bidder(" + b + ", " + i + ")", () -> x.bidder(one, what), () -> m.bidder(one, what));
            }
            for (int i = 0; i < 16; i++) {
                int one = b;
                int pack = i / 4;
                int what = i % 4;
                same(at + "pack(" + b + ", " + pack + ", " + what + ")",
                        () -> x.pack(one, pack, what), () -> m.pack(one, pack, what));
            }
        }
        for (int i = 0; i < 12; i++) {
            int k = i / 4;
            int what = i % 4;
            same(at + "kind(" + k + ", " + what + ")", () -> x.kind(k, what), () -> m.kind(k, what));
        }
    }

    private static void result(String at) {
        // The model looks through 5 to the power of the bidders: not at every call.
        if (m.about(0) > 4 && random.nextInt(6) > 0) {
            return;
        }
        int b = b();
        int k = k();
        switch (random.nextInt(5)) {
            case 0:
                same(at + "best()", x::best, m::best);
                break;
            case 1:
                same(at + "gets(" + b + ")", () -> x.gets(b), () -> m.gets(b));
                break;
            case 2:
                same(at + "pays(" + b + ")", () -> x.pays(b), () -> m.pays(b));
                break;
            case 3:
                same(at + "oneMore(" + k + ")", () -> x.oneMore(k), () -> m.oneMore(k));
                break;
            default:
                same(at + "leastMissed()", x::leastMissed, m::leastMissed);
        }
    }

    private static void ahead(String at) {
        int b = b();
        int k = k();
        int n = some(1, 3);
        switch (random.nextInt(8)) {
            case 0: case 1:
                same(at + "wouldAsk(" + b + ", " + k + ")", () -> x.wouldAsk(b, k), () -> m.wouldAsk(b, k));
                break;
            case 2:
                same(at + "roundsLeft()", x::roundsLeft, m::roundsLeft);
                break;
            case 3:
                same(at + "endPrice(" + k + ")", () -> x.endPrice(k), () -> m.endPrice(k));
                break;
            case 4: {
                long seed = random.nextLong();
                int turns = some(1, 99);
                same(at + "simulate(" + seed + ", " + turns + ")", () -> x.simulate(seed, turns), () -> m.simulate(seed, turns));
                break;
            }
            default: {
                long script = script(n);
                same(at + "runScript(" + n + ", " + script + ")", () -> x.runScript(n, script), () -> m.runScript(n, script));
            }
        }
    }

    private static long script(int n) {
        if (random.nextInt(10) == 0) {
            return random.nextInt(3) == 0 ? random.nextLong() : random.nextInt(2000000) - 1000L;
        }
        long script = 0;
        for (int i = 0; i < n; i++) {
            int first = random.nextInt(10);
            int second = random.nextInt(4);
            int third = first == 5 || first == 8 || first == 2 ? 0 : random.nextInt(3);
            int rest = first == 2 || first == 6 || first == 3 || first == 9 ? 0 : random.nextInt(100);
            if (first == 3 || first == 9) {
                second = 0;
                third = 0;
            }
            if (first == 1) {
                rest = random.nextInt(4) * 10;
            }
            if (random.nextInt(20) == 0) {
                rest++;
            }
            script = 100000 * script + 10000L * first + 1000 * second + 100 * third + rest;
        }
        return script;
    }

    private static void text(String at) {
        StringBuilder text = new StringBuilder(random.nextInt(20) == 0 ? "" : "L");
        int commands = random.nextInt(20);
        for (int i = 0; i < commands; i++) {
            command(text, i);
        }
        if (random.nextInt(4) == 0 && text.length() > 0) {
            text.setCharAt(random.nextInt(text.length()), (char) ('0' + random.nextInt(12)));
        }
        if (random.nextInt(6) == 0 && text.length() > 0) {
            text.setLength(random.nextInt(text.length()));
        }
        same(at + "clearText()", x::clearText, m::clearText);
        for (int i = 0; i < text.length(); i++) {
            char c = text.charAt(i);
            same(at + "append(" + c + ")", () -> x.append(c), () -> m.append(c));
        }
        same(at + "errorPosition() of " + text, x::errorPosition, m::errorPosition);
        if (random.nextInt(3) == 0) {
            same(at + "load() of " + text, x::load, m::load);
        }
    }

    private static void command(StringBuilder text, int i) {
        int b = random.nextInt(4);
        int k = random.nextInt(3);
        int kind = i < 6 ? random.nextInt(8) : 2 + random.nextInt(20);
        if (kind <= 1) {
            text.append('s').append(k).append(1 + random.nextInt(9)).append(1 + random.nextInt(9));
        } else if (kind <= 5) {
            text.append('b').append(random.nextInt(10)).append(random.nextInt(10)).append(1 + random.nextInt(9));
        } else if (kind <= 11) {
            text.append('v').append(b).append(k).append('0').append(random.nextInt(10)).append(random.nextInt(10));
        } else if (kind <= 15) {
            text.append('q').append(b).append(k).append(random.nextInt(4));
        } else if (kind <= 18) {
            text.append('w').append(b);
        } else if (kind <= 19) {
            text.append('c');
        }
    }

    private static void slot(String at) {
        int slot = some(0, 1);
        if (random.nextInt(3) > 0) {
            same(at + "save(" + slot + ")", () -> x.save(slot), () -> m.save(slot));
        } else {
            same(at + "restore(" + slot + ")", () -> x.restore(slot), () -> m.restore(slot));
        }
    }
}
