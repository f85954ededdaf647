import java.lang.reflect.InvocationTargetException;
import java.lang.reflect.Method;
import java.util.ArrayList;
import java.util.Collections;
import java.util.HashMap;
import java.util.List;
import java.util.Map;
import java.util.Set;

/**
 * Runs of calls, written as lines: "ask 0 1 2 = 4" calls ask(0, 1, 2), and 4 is due. What is due may also be NONE, or
 * NO_SUCH, BAD or NOT_NOW for an exception. A line without "=" must not throw; "write Lc" empties the text and appends.
 * Each run is played on a new object, and on a new model, which must answer the same. Calls that throw and calls that the
 * document says change nothing are also held to that: what can be got out of the object must be as without the call.
 */
final class Runs {
    static final int MOST_CALLS = 512;

    private static final Map<String, Method> OF_CLASS = methods(ClockLots.class);
    private static final Map<String, Method> OF_MODEL = methods(Model.class);
    private static final Map<String, Long> WORDS = Map.of("NONE", -1L, "NO_SUCH", -1000001L, "BAD", -1000002L,
            "NOT_NOW", -1000003L);
    private static final long LEAST_THROWN = -1000009L;
    private static final long MOST_THROWN = -1000001L;
    private static final Set<String> CHANGE_NOTHING = Set.of("errorPosition", "about", "kind", "bidder", "demand", "pack",
            "setting", "best", "gets", "pays", "oneMore", "leastMissed", "wouldAsk", "roundsLeft", "endPrice", "runScript",
            "simulate");

    private Runs() {
    }

    private static Map<String, Method> methods(Class<?> type) {
        Map<String, Method> all = new HashMap<>();
        for (Method method : type.getDeclaredMethods()) {
            if (!java.lang.reflect.Modifier.isPrivate(method.getModifiers())) {
                all.put(method.getName(), method);
            }
        }
        return all;
    }

    static void run(String sentence, String... lines) {
        List<String> calls = expanded(List.of(lines));
        Check.due(sentence + ": a run of at most 512 calls (1 if so)", calls.size() <= MOST_CALLS ? 1 : 0, 1);
        ClockLots x = new ClockLots();
        Model m = new Model();
        List<String> done = new ArrayList<>();
        List<Long> before = null;
        for (String line : calls) {
            String call = line.split("=")[0].trim();
            long got = answer(x, call);
            hold(sentence + ": " + call, got, line);
            Check.due(sentence + ": " + call + ", the model", answer(m, call), got);
            if (thrown(got) || CHANGE_NOTHING.contains(call.split(" ")[0])) {
                before = before == null ? everything(done, "") : before;
                Check.dueSame(sentence + ": all behind " + call, everything(done, call), before);
            } else {
                done.add(call);
                before = null;
            }
        }
    }

    private static void hold(String what, long got, String line) {
        int at = line.indexOf('=');
        if (at < 0) {
            Check.due(what + " (1 if it throws)", thrown(got) ? 1 : 0, 0);
            return;
        }
        String due = line.substring(at + 1).trim();
        Check.due(what, got, WORDS.containsKey(due) ? WORDS.get(due) : Long.parseLong(due));
    }

    static boolean thrown(long outcome) {
        return outcome >= LEAST_THROWN && outcome <= MOST_THROWN;
    }

    static List<String> expanded(List<String> lines) {
        List<String> calls = new ArrayList<>();
        for (String line : lines) {
            if (!line.startsWith("write")) {
                calls.add(line);
                continue;
            }
            calls.add("clearText");
            for (char c : line.substring(Math.min(6, line.length())).toCharArray()) {
                calls.add("append " + (int) c);
            }
        }
        return calls;
    }

    /** A new object behind these calls, whatever they answer. */
    static ClockLots made(List<String> calls) {
        ClockLots x = new ClockLots();
        for (String call : calls) {
            answer(x, call);
        }
        return x;
    }

    static Model modelled(List<String> calls) {
        Model m = new Model();
        for (String call : calls) {
            answer(m, call);
        }
        return m;
    }

    /** What a call answers on a ClockLots or on a Model, or the number for what it throws. */
    static long answer(Object on, String call) {
        String[] words = call.split(" ");
        Method method = (on instanceof Model ? OF_MODEL : OF_CLASS).get(words[0]);
        Object[] arguments = new Object[words.length - 1];
        for (int i = 0; i < arguments.length; i++) {
            boolean isLong = method.getParameterTypes()[i] == long.class;
            arguments[i] = isLong ? (Object) Long.parseLong(words[i + 1]) : (Object) Integer.parseInt(words[i + 1]);
        }
        return Check.outcome(() -> invoked(on, method, arguments));
    }

    private static long invoked(Object on, Method method, Object[] arguments) {
        try {
            return (Integer) method.invoke(on, arguments);
        } catch (InvocationTargetException e) {
            if (e.getCause() instanceof RuntimeException) {
                throw (RuntimeException) e.getCause();
            }
            throw new AssertionError(e);
        } catch (IllegalAccessException e) {
            throw new AssertionError(e);
        }
    }

    /**
     * All that can be got out of an object behind these calls and one more ("" for none): what it answers, the values,
     * the text, the save slots, and the remembered states. Each part is taken out of an object of its own.
     */
    private static List<Long> everything(List<String> calls, String more) {
        List<String> whole = new ArrayList<>(calls);
        if (!more.isEmpty()) {
            whole.add(more);
        }
        List<Long> all = new ArrayList<>(Check.picture(made(whole)));
        addValues(made(whole), all);
        addText(made(whole), all);
        for (String slot : new String[] {"restore 0", "restore 1"}) {
            ClockLots x = made(whole);
            all.add(answer(x, slot));
            all.addAll(Check.picture(x));
            addValues(x, all);
        }
        addRemembered(whole, all);
        return all;
    }

    private static void addValues(ClockLots x, List<Long> all) {
        for (int b = 0; b < x.about(0); b++) {
            for (int k = 0; k < 3; k++) {
                all.add((long) x.value(b, k, 0));
            }
        }
    }

    private static void addText(ClockLots x, List<Long> all) {
        all.add(answer(x, "load"));
        all.addAll(Check.picture(x));
        all.add((long) x.clearText());
    }

    private static void addRemembered(List<String> calls, List<Long> all) {
        List<String> back = new ArrayList<>(calls);
        long left = 0;
        for (int i = 0; i < 15 && !thrown(left); i++) {
            ClockLots x = made(back);
            left = answer(x, "undo");
            all.add(left);
            all.addAll(Check.picture(x));
            addValues(x, all);
            back.add("undo");
        }
    }

    /** As many times the same line. */
    static List<String> times(int n, String line) {
        return Collections.nCopies(n, line);
    }

    static String[] lines(Object... parts) {
        List<String> all = new ArrayList<>();
        for (Object part : parts) {
            if (part instanceof List) {
                for (Object line : (List<?>) part) {
                    all.add((String) line);
                }
            } else if (part instanceof String[]) {
                all.addAll(List.of((String[]) part));
            } else {
                all.add((String) part);
            }
        }
        return all.toArray(new String[0]);
    }
}
