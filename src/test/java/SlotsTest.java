/** Promises 33 and 34: the save slots. */
public final class SlotsTest {
    public static void main(String[] args) {
        wrongInputs();
        saveAndRestore();
        Check.end();
    }

    private static void wrongInputs() {
        ClockLots x = new ClockLots();
        Check.dueThrow(x, "save(-1)", Check.NO_SUCH, () -> x.save(-1));
        Check.dueThrow(x, "save(2)", Check.NO_SUCH, () -> x.save(2));
        Check.dueThrow(x, "restore(-1)", Check.NO_SUCH, () -> x.restore(-1));
        Check.dueThrow(x, "restore(2)", Check.NO_SUCH, () -> x.restore(2));
        Check.dueThrow(x, "restore(0)", Check.NOT_NOW, () -> x.restore(0));
        Check.due("save(1)", x.save(1), 0);
        Check.dueThrow(x, "restore(0) behind save(1)", Check.NOT_NOW, () -> x.restore(0));
        x.join(1, 1);
        Check.outcome(() -> x.restore(0));
        Check.due("a failed restore keeps the states", x.undo(), 0);
    }

    private static void saveAndRestore() {
        ClockLots x = Check.loaded("Ls052b992b993v00500q002q112w0cc");
        x.add(1, 0, 1, 0, 40);
        String early = Check.picture(x).toString();
        int rounds = x.about(1);
        Check.due("save(0)", x.save(0), rounds);
        x.set(0, 77);
        x.undo();
        Check.due("save is no action", x.undo(), 0);
        Check.due("save(1)", x.save(1), rounds);
        String late = Check.picture(x).toString();
        x.value(0, 2, 9);
        Check.due("restore(0)", x.restore(0), rounds);
        Check.dueSame("the state in the slot 0", Check.picture(x).toString(), early);
        Check.dueThrow(x, "undo behind restore", Check.NOT_NOW, x::undo);
        Check.due("drop behind restore", x.drop(1, 1), 0);
        x.set(1, 33);
        Check.due("restore(0) again", x.restore(0), rounds);
        Check.dueSame("the state in the slot 0 again", Check.picture(x).toString(), early);
        Check.due("restore(1)", x.restore(1), rounds);
        Check.dueSame("the state in the slot 1", Check.picture(x).toString(), late);
        x.clearText();
        Check.due("restore keeps the text", x.restore(0), rounds);
        Check.due("restore keeps the text", x.clearText(), 0);
        ClockLots y = new ClockLots();
        y.save(0);
        y.close();
        Check.due("save(1) behind a round", y.save(1), 1);
        Check.due("restore(0) to the start", y.restore(0), 0);
        Check.due("restore(1) to the end", y.restore(1), 1);
        y.save(0);
        Check.due("a later save replaces the first", y.restore(0), 1);
    }
}
