import java.lang.reflect.Constructor;
import java.lang.reflect.Field;
import java.lang.reflect.Method;
import java.lang.reflect.Modifier;
import java.util.TreeSet;

/** The public face: what the document shows, and nothing else that is not private. */
public final class FaceTest {
    private static final String[] FACE = {
        "append(int)", "clearText()", "errorPosition()", "load()", "about(int)", "kind(int,int)", "bidder(int,int)",
        "demand(int,int)", "pack(int,int,int)", "setting(int)", "offer(int,int,int)", "price(int,int)", "join(int,int)",
        "value(int,int,int)", "ask(int,int,int)", "bid(int)", "close()", "add(int,int,int,int,int)", "drop(int,int)",
        "set(int,int)", "undo()", "best()", "gets(int)", "pays(int)", "oneMore(int)", "leastMissed()",
        "wouldAsk(int,int)", "roundsLeft()", "endPrice(int)", "runScript(int,long)", "simulate(long,int)", "save(int)",
        "restore(int)"
    };

    public static void main(String[] args) {
        TreeSet<String> due = new TreeSet<>();
        TreeSet<String> names = new TreeSet<>();
        for (String method : FACE) {
            due.add("public int " + method);
            names.add(method.substring(0, method.indexOf('(')));
        }
        TreeSet<String> got = new TreeSet<>();
        for (Method method : ClockLots.class.getDeclaredMethods()) {
            if (!Modifier.isPrivate(method.getModifiers())) {
                String whole = method.toString().replace("ClockLots.", "");
                got.add(whole.replaceAll(" throws.*", ""));
            } else if (names.contains(method.getName())) {
                got.add("private " + method.getName());
            }
        }
        Check.dueSame("the methods", got, due);
        fieldsAndConstructors();
        Check.end();
    }

    private static void fieldsAndConstructors() {
        TreeSet<String> got = new TreeSet<>();
        for (Field field : ClockLots.class.getDeclaredFields()) {
            if (!Modifier.isPrivate(field.getModifiers())) {
                got.add(field.toString());
            }
        }
        for (Constructor<?> constructor : ClockLots.class.getDeclaredConstructors()) {
            got.add(constructor.toString());
        }
        TreeSet<String> due = new TreeSet<>();
        due.add("public static final int ClockLots.NONE");
        due.add("public ClockLots()");
        Check.dueSame("the fields and constructors", got, due);
        Check.due("public and final", ClockLots.class.getModifiers(), Modifier.PUBLIC | Modifier.FINAL);
    }
}
