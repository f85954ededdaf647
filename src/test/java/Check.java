import java.util.ArrayList;
import java.util.List;

/** What the tests share: a count of wrong answers, and a picture of all that an object answers. */
final class Check {
    interface Call {
        long answer();
    }

    static final Class<?> NO_SUCH = IndexOutOfBoundsException.class;
    static final Class<?> BAD = IllegalArgumentException.class;
    static final Class<?> NOT_NOW = IllegalStateException.class;

    private static int checks = 0;
    private static int wrong = 0;

    private Check() {
    }

    static void due(String call, long got, long want) {
        checks++;
        if (got != want) {
            wrong++;
            System.out.println(call + " answered " + got + ", due is " + want);
        }
    }

    /** The call must throw just this class, and must change nothing that can be asked for. */
    static void dueThrow(ClockLots x, String call, Class<?> want, Call c) {
        checks++;
        List<Long> before = picture(x);
        Object got;
        try {
            got = c.answer();
        } catch (RuntimeException e) {
            got = e.getClass();
        }
        if (got != want) {
            wrong++;
            System.out.println(call + " answered " + got + ", due is " + want);
        }
        if (!before.equals(picture(x))) {
            wrong++;
            System.out.println(call + " threw and changed something");
        }
    }

    static void dueSame(String what, Object got, Object want) {
        checks++;
        if (!got.equals(want)) {
            wrong++;
            System.out.println(what + " answered " + got + ", due is " + want);
        }
    }

    /** What the call answers, or a number for what it throws. */
    static long outcome(Call c) {
        try {
            return c.answer();
        } catch (IndexOutOfBoundsException e) {
            return e.getClass() == NO_SUCH ? -1000001 : -1000009;
        } catch (IllegalArgumentException e) {
            return e.getClass() == BAD ? -1000002 : -1000009;
        } catch (IllegalStateException e) {
            return e.getClass() == NOT_NOW ? -1000003 : -1000009;
        } catch (RuntimeException e) {
            return -1000009;
        }
    }

    static List<Long> picture(ClockLots x) {
        List<Long> all = new ArrayList<>();
        all.add((long) x.errorPosition());
        for (int what = 0; what <= 5; what++) {
            all.add((long) x.about(what));
        }
        all.add((long) x.setting(0));
        all.add((long) x.setting(1));
        for (int k = 0; k < 3; k++) {
            for (int what = 0; what <= 3; what++) {
                all.add((long) x.kind(k, what));
            }
        }
        for (int b = 0; b < x.about(0); b++) {
            addBidder(x, b, all);
        }
        return all;
    }

    private static void addBidder(ClockLots x, int b, List<Long> all) {
        for (int what = 0; what <= 4; what++) {
            all.add((long) x.bidder(b, what));
        }
        for (int k = 0; k < 3; k++) {
            all.add((long) x.demand(b, k));
            all.add((long) x.wouldAsk(b, k));
        }
        for (int i = 0; i <= x.bidder(b, 3); i++) {
            for (int what = 0; what <= 3; what++) {
                all.add((long) x.pack(b, i, what));
            }
        }
    }

    static void write(ClockLots x, String text) {
        x.clearText();
        for (int i = 0; i < text.length(); i++) {
            x.append(text.charAt(i));
        }
    }

    static ClockLots loaded(String text) {
        ClockLots x = new ClockLots();
        write(x, text);
        x.load();
        return x;
    }

    static void end() {
        System.out.println(checks + " checks, " + wrong + " wrong");
        if (wrong > 0 || checks == 0) {
            System.exit(1);
        }
    }
}
