/** Promises 1 to 5: a new object and the text. */
public final class TextTest {
    public static void main(String[] args) {
        newObject();
        append();
        clearText();
        errorPosition();
        load();
        loadLeavesOut();
        loadForgets();
        Check.end();
    }

    private static void newObject() {
        ClockLots x = new ClockLots();
        for (int what = 0; what <= 5; what++) {
            Check.due("new about(" + what + ")", x.about(what), 0);
        }
        for (int k = 0; k < 3; k++) {
            Check.due("new supply", x.kind(k, 0), 2);
            Check.due("new points", x.kind(k, 1), 1);
            Check.due("new price", x.kind(k, 2), 10);
            Check.due("new demands", x.kind(k, 3), 0);
        }
        Check.due("new setting(0)", x.setting(0), 100);
        Check.due("new setting(1)", x.setting(1), 10);
        Check.due("new text", x.clearText(), 0);
        Check.dueThrow(x, "new undo()", Check.NOT_NOW, x::undo);
        Check.dueThrow(x, "new restore(0)", Check.NOT_NOW, () -> x.restore(0));
        Check.dueThrow(x, "new restore(1)", Check.NOT_NOW, () -> x.restore(1));
        Check.due("NONE", ClockLots.NONE, -1);
    }

    private static void append() {
        ClockLots x = new ClockLots();
        Check.dueThrow(x, "append(-1)", Check.BAD, () -> x.append(-1));
        Check.dueThrow(x, "append(256)", Check.BAD, () -> x.append(256));
        Check.due("append(0)", x.append(0), 1);
        Check.due("append(255)", x.append(255), 2);
        for (int i = 3; i <= 120; i++) {
            Check.due("append", x.append('L'), i);
        }
        Check.dueThrow(x, "append to a full text", Check.NOT_NOW, () -> x.append('L'));
        Check.dueThrow(x, "append(256) to a full text", Check.BAD, () -> x.append(256));
        Check.due("clearText of a full text", x.clearText(), 120);
    }

    private static void clearText() {
        ClockLots x = new ClockLots();
        x.append('L');
        x.append('c');
        Check.due("clearText", x.clearText(), 2);
        Check.due("clearText again", x.clearText(), 0);
        Check.due("append behind clearText", x.append('L'), 1);
        Check.due("the old text is gone", x.errorPosition(), -1);
        x.join(1, 1);
        x.clearText();
        Check.due("clearText is no action", x.about(0), 1);
        Check.due("clearText remembers nothing", x.undo(), 0);
    }

    private static void errorAt(String text, int want) {
        ClockLots x = new ClockLots();
        Check.write(x, text);
        Check.due("errorPosition of " + text, x.errorPosition(), want);
        if (want != -1) {
            Check.dueThrow(x, "load of " + text, Check.NOT_NOW, x::load);
        }
    }

    private static void errorPosition() {
        errorAt("", 0);
        errorAt("l", 0);
        errorAt("cL", 0);
        errorAt("L", -1);
        errorAt("LL", 1);
        errorAt("L ", 1);
        errorAt("Lc", -1);
        errorAt("Lc c", 2);
        errorAt("Lcd", 2);
        errorAt("Ls", 2);
        errorAt("Ls2", 3);
        errorAt("Ls29", 4);
        errorAt("Ls299", -1);
        errorAt("Ls011", -1);
        errorAt("Ls311", 2);
        errorAt("Ls001", 3);
        errorAt("Ls010", 4);
        errorAt("Lsa11", 2);
        errorAt("Ls0112", 5);
        errorAt("Lb", 2);
        errorAt("Lb9", 3);
        errorAt("Lb99", 4);
        errorAt("Lb999", -1);
        errorAt("Lb001", -1);
        errorAt("Lb000", 4);
        errorAt("Lb:01", 2);
        errorAt("Lb0/1", 3);
        errorAt("Lv52999", -1);
        errorAt("Lv00000", -1);
        errorAt("Lv60000", 2);
        errorAt("Lv03000", 3);
        errorAt("Lv00", 4);
        errorAt("Lv0000", 6);
        errorAt("Lv00c00", 4);
        errorAt("Lv0000c", 6);
        errorAt("Lq529", -1);
        errorAt("Lq000", -1);
        errorAt("Lq600", 2);
        errorAt("Lq030", 3);
        errorAt("Lq00w", 4);
        errorAt("Lw5", -1);
        errorAt("Lw6", 2);
        errorAt("Lw", 2);
        errorAt("LB011", 1);
        errorAt("Lb011w0q001v00099s011cc", -1);
        errorAt("Lb011" + (char) 225, 5);
        errorAt("L" + "c".repeat(119), -1);
        errorAt("L" + "c".repeat(118) + "w", 120);
    }

    private static void load() {
        ClockLots x = new ClockLots();
        Check.write(x, "Ls032s194b123b072v00040v11999q012w1c");
        Check.due("load()", x.load(), 0);
        Check.due("supply(0)", x.kind(0, 0), 3);
        Check.due("points(0)", x.kind(0, 1), 2);
        Check.due("supply(1)", x.kind(1, 0), 9);
        Check.due("points(1)", x.kind(1, 1), 4);
        Check.due("bidders", x.about(0), 2);
        Check.due("cap(0)", x.bidder(0, 1), 3);
        Check.due("cap(1)", x.bidder(1, 1), 2);
        Check.due("right(0) behind the round", x.bidder(0, 0), 8);
        Check.due("right(1) behind the round", x.bidder(1, 0), 4);
        Check.due("demand(0, 1)", x.demand(0, 1), 2);
        Check.due("demand(1, 1)", x.demand(1, 1), 1);
        Check.due("value", x.value(0, 0, 0), 40);
        Check.due("value", x.value(1, 1, 0), 999);
        Check.due("rounds", x.about(1), 1);
        Check.due("over", x.about(2), 1);
        Check.due("the text is kept", x.clearText(), 36);
    }

    private static void loadLeavesOut() {
        leftOut("L", 0);
        leftOut("Lw0q000v00000", 3);
        leftOut("Lcc", 1);
        leftOut("Lcs011b011c", 3);
        leftOut("Lb011s011", 1);
        leftOut("Lb011b011b011b011b011b011b011", 1);
        leftOut("Lb051q002q001q011q023q020", 2);
        leftOut("Lb012q003q002q001", 2);
        leftOut("Lb999q003q009", 2);
        leftOut("Lb999w1", 1);
        leftOut("Lb999cw0q000", 2);
        leftOut("Lb999cv00100", 0);
        leftOut("L" + "c".repeat(119), 118);
    }

    private static void leftOut(String text, int want) {
        ClockLots x = new ClockLots();
        Check.write(x, text);
        Check.due("load() of " + text, x.load(), want);
    }

    private static void loadWhenOver() {
        ClockLots x = Check.loaded("Lb999v00500q001c");
        x.add(0, 1, 0, 0, 99);
        x.add(0, 1, 0, 0, 98);
        Check.write(x, "L");
        Check.due("load() when it is over", x.load(), 0);
        Check.due("not over behind load", x.about(2), 0);
        Check.due("no rounds behind load", x.about(1), 0);
        Check.due("join behind load", x.join(9, 9), 0);
        Check.due("no old package", x.bidder(0, 3), 0);
        Check.due("no old demand", x.demand(0, 0), 0);
        Check.due("no old value", x.value(0, 0, 1), 0);
    }

    private static void loadForgets() {
        ClockLots x = new ClockLots();
        x.offer(0, 9, 9);
        x.price(2, 777);
        x.join(50, 5);
        x.value(0, 0, 5000);
        x.ask(0, 0, 2);
        x.set(0, 50);
        x.set(1, 50);
        x.save(0);
        x.save(1);
        x.close();
        x.add(0, 1, 0, 0, 999);
        Check.write(x, "Lx");
        Check.dueThrow(x, "load of no auction", Check.NOT_NOW, x::load);
        Check.due("a failed load keeps the states", x.undo(), 8);
        Check.due("a failed load keeps the slots", x.restore(0), 0);
        Check.write(x, "L");
        Check.due("load()", x.load(), 0);
        Check.dueSame("a loaded empty auction", Check.picture(x).toString(), Check.picture(Check.loaded("L")).toString());
        Check.due("price", x.kind(2, 2), 10);
        Check.due("setting(0)", x.setting(0), 100);
        Check.due("setting(1)", x.setting(1), 10);
        Check.due("supply", x.kind(0, 0), 2);
        Check.dueThrow(x, "undo behind load", Check.NOT_NOW, x::undo);
        Check.dueThrow(x, "restore(0) behind load", Check.NOT_NOW, () -> x.restore(0));
        Check.dueThrow(x, "restore(1) behind load", Check.NOT_NOW, () -> x.restore(1));
        Check.due("join behind load", x.join(3, 1), 0);
        Check.due("no old value", x.value(0, 0, 0), 0);
        Check.due("no old demand", x.demand(0, 0), 0);
        Check.due("no old package", x.bidder(0, 3), 0);
        Check.due("load again", x.load(), 0);
        Check.due("bidders behind load", x.about(0), 0);
        loadWhenOver();
    }
}
