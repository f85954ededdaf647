import java.lang.reflect.Constructor;
import java.lang.reflect.Field;
import java.lang.reflect.Method;
import java.lang.reflect.Modifier;
import java.util.TreeSet;

/** The public face: what the document shows, and nothing else that is not private. */
public final class FaceTest {
    // Behind each method the exceptions that it declares: of an index (I), an argument (A), a state (S).
    private static final String[] FACE = {
        "append(int) AS", "clearText()", "errorPosition()", "load() S", "about(int) A", "kind(int,int) IA",
        "bidder(int,int) IA", "demand(int,int) I", "pack(int,int,int) IA", "setting(int) A", "offer(int,int,int) IAS",
        "price(int,int) IAS", "join(int,int) AS", "value(int,int,int) IA", "ask(int,int,int) IAS", "bid(int) IS",
        "close() S", "add(int,int,int,int,int) IAS", "drop(int,int) I", "set(int,int) A", "undo() S", "best()",
        "gets(int) I", "pays(int) I", "oneMore(int) I", "leastMissed()", "wouldAsk(int,int) I", "roundsLeft()",
        "endPrice(int) I", "runScript(int,long) A", "simulate(long,int) A", "save(int) I", "restore(int) IS"
    };

    public static void main(String[] args) {
        TreeSet<String> due = new TreeSet<>();
        TreeSet<String> names = new TreeSet<>();
        for (String method : FACE) {
            due.add("public int " + method);
            names.add(method.substring(0, method.indexOf('(')));
        }
        TreeSet<String> got = new TreeSet<>();
        for (Method method : ClockLots.class.getDeclaredMethods()) {
            if (!Modifier.isPrivate(method.getModifiers())) {
                got.add(method.toString().replace("ClockLots.", "").replaceAll(" throws.*", "") + declared(method));
            } else if (names.contains(method.getName())) {
                got.add("private " + method.getName());
            }
        }
        Check.dueSame("the methods", got, due);
        fieldsAndConstructors();
        Check.end();
    }

    private static String declared(Method method) {
        StringBuilder letters = new StringBuilder();
        for (Class<?> e : method.getExceptionTypes()) {
            letters.append(e == Check.NO_SUCH ? "I" : e == Check.BAD ? "A" : e == Check.NOT_NOW ? "S" : "?");
        }
        return letters.length() == 0 ? "" : " " + letters;
    }

    private static void fieldsAndConstructors() {
        TreeSet<String> got = new TreeSet<>();
        for (Field field : ClockLots.class.getDeclaredFields()) {
            if (!Modifier.isPrivate(field.getModifiers())) {
                got.add(field.toString());
            }
        }
        for (Constructor<?> constructor : ClockLots.class.getDeclaredConstructors()) {
            got.add(constructor.toString());
        }
        TreeSet<String> due = new TreeSet<>();
        due.add("public static final int ClockLots.NONE");
        due.add("public ClockLots()");
        Check.dueSame("the fields and constructors", got, due);
        Check.due("public and final", ClockLots.class.getModifiers(), Modifier.PUBLIC | Modifier.FINAL);
    }
}
