import java.util.ArrayList;
import java.util.List;

/** Promises 33 and 34, sentence by sentence: the save slots at their edges. */
public final class SlotEdgesTest {
    private static final String[] OVER = {
        "offer 0 3 2", "price 1 20", "set 0 50", "set 1 33", "join 9 3", "join 8 2", "value 0 1 55", "ask 0 0 1", "ask 1 0 2",
        "close", "add 1 1 0 0 55"
    };

    public static void main(String[] args) {
        save();
        saveRefused();
        restore();
        restoreRefused();
        restoreAll();
        restoreForgets();
        slotsKeep();
        Check.end();
    }

    private static void save() {
        Runs.run("the rounds that were closed so far", "join 9 9", "join 9 9", "ask 0 0 2", "ask 1 0 2", "save 0 = 0",
                "close", "save 0 = 1", "close", "save 1 = 2", "undo", "save 1 = 1");
        Runs.run("save is not an action", "save 0", "undo = NOT_NOW", "price 0 5", "save 1", "undo = 0");
        Runs.run("save changes nothing in the state", "join 9 9", "ask 0 0 1", "save 0", "demand 0 0 = 1", "undo = 1",
                "demand 0 0 = 0");
        Runs.run("save in a slot that is in use", "save 0", "price 0 5", "save 0", "price 0 6", "restore 0",
                "kind 0 2 = 5");
        Runs.run("each slot is one of its own", "save 0", "price 0 5", "save 1", "price 0 6", "restore 0",
                "kind 0 2 = 10", "restore 1", "kind 0 2 = 5");
    }

    private static void saveRefused() {
        Runs.run("there is no such save slot", "save 0", "price 0 5", "save -1 = NO_SUCH", "save 2 = NO_SUCH",
                "save -2147483648 = NO_SUCH", "save 2147483647 = NO_SUCH", "restore 0", "kind 0 2 = 10");
    }

    private static void restore() {
        Runs.run("the rounds that were closed so far, then", "save 0", "join 9 9", "join 9 9", "ask 0 0 2", "ask 1 0 2",
                "close", "close", "save 1 = 2", "restore 0 = 0", "restore 1 = 2");
        Runs.run("restore is not an action", "save 0", "price 0 5", "restore 0", "undo = NOT_NOW", "kind 0 2 = 10");
        Runs.run("restore what is there already", "price 0 5", "save 0", "restore 0 = 0", "undo = NOT_NOW",
                "kind 0 2 = 5");
        Runs.run("a bidder that came later is gone, and another one begins anew", "save 0", "join 9 9", "value 0 0 77",
                "ask 0 0 2", "restore 0", "about 0 = 0", "join 8 8 = 0", "demand 0 0 = 0", "value 0 0 1 = 0");
    }

    private static void restoreRefused() {
        Runs.run("there is no such save slot", "save 0", "save 1", "price 0 5", "restore -1 = NO_SUCH",
                "restore 2 = NO_SUCH", "restore -2147483648 = NO_SUCH", "restore 2147483647 = NO_SUCH", "undo = 0");
        Runs.run("nothing has been saved in it", "price 0 5", "restore 0 = NOT_NOW", "restore 1 = NOT_NOW", "save 1",
                "restore 0 = NOT_NOW", "restore 1 = 0", "save 0", "restore 0 = 0");
        Runs.run("nothing has been saved in it since the last load", "write L", "save 0", "save 1", "load",
                "restore 0 = NOT_NOW", "restore 1 = NOT_NOW", "save 0", "restore 0 = 0", "restore 1 = NOT_NOW");
        Runs.run("a load that throws empties no slot", "save 0", "write l", "load = NOT_NOW", "restore 0 = 0");
        Runs.run("no such save slot, also where nothing has been saved", "restore -1 = NO_SUCH", "restore 2 = NO_SUCH");
    }

    private static void restoreAll() {
        Runs.run("everything but the text and the save slots", Runs.lines(OVER, "save 0", "value 0 1 5", "set 0 60",
                "set 1 44", "drop 1 1", "restore 0 = 1", "kind 0 0 = 3", "kind 0 1 = 2", "kind 1 2 = 20",
                "setting 0 = 50", "setting 1 = 33", "about 0 = 2", "bidder 0 1 = 3", "bidder 1 0 = 8", "demand 1 0 = 2",
                "about 2 = 1", "pack 1 1 3 = 55", "pack 1 1 0 = 1", "value 0 1 1 = 55"));
        Runs.run("all of six bidders", Runs.lines("save 0", Six.start(), "save 1", "restore 0", "about 0 = 0",
                otherSix(), "restore 1 = 1", Six.due()));
        Runs.run("back to the beginning", Runs.lines("save 0", OVER, "restore 0 = 0", "kind 0 0 = 2", "kind 0 1 = 1",
                "kind 1 2 = 10", "setting 0 = 100", "setting 1 = 10", "about 0 = 0", "about 2 = 0", "about 4 = 0"));
        Runs.run("the text stays", "write Lc", "save 0", "write Lb999", "restore 0", "errorPosition = NONE",
                "clearText = 5");
    }

    /** Other six bidders, who leave nothing in the rows as it was. */
    private static String[] otherSix() {
        List<String> lines = new ArrayList<>(Runs.times(6, "join 99 9"));
        for (int b = 0; b < 6; b++) {
            for (int k = 0; k < 3; k++) {
                lines.add("value " + b + " " + k + " 7");
                lines.add("ask " + b + " " + k + " 2");
            }
        }
        lines.add("close = 3");
        for (int b = 0; b < 6; b++) {
            for (int k = 0; k < 3; k++) {
                lines.add("ask " + b + " " + k + " " + (b == k ? 2 : 0));
            }
        }
        lines.addAll(List.of("set 0 50", "ask 3 0 0", "close = 0"));
        for (int i = 0; i < 9; i++) {
            lines.add("add " + i / 3 + " 1 1 0 99");
        }
        return lines.toArray(new String[0]);
    }

    private static void restoreForgets() {
        Runs.run("forgets all remembered states", "price 0 5", "price 0 6", "save 0", "price 0 7", "restore 0",
                "undo = NOT_NOW", "kind 0 2 = 6", "price 0 8", "undo = 0", "kind 0 2 = 6", "undo = NOT_NOW");
        Runs.run("a restore that throws forgets none", "price 0 5", "restore 0 = NOT_NOW", "restore 2 = NO_SUCH",
                "undo = 0");
        Runs.run("all of fourteen", Runs.lines(Runs.times(20, "price 0 5"), "save 0", "restore 0", "undo = NOT_NOW",
                Runs.times(14, "price 0 6"), "undo = 13"));
    }

    private static void slotsKeep() {
        Runs.run("the save slot keeps it", "price 0 5", "save 0", "price 0 6", "restore 0", "price 0 7", "restore 0",
                "kind 0 2 = 5", "undo = NOT_NOW", "restore 0 = 0");
        Runs.run("undo does not change the slots", "price 0 5", "save 0", "undo", "kind 0 2 = 10", "restore 0",
                "kind 0 2 = 5");
        Runs.run("what comes behind does not change the slots", Runs.lines(OVER, "save 0", "drop 1 1", "value 0 1 5",
                "add 0 1 0 0 99", "restore 0", "bidder 0 3 = 0", "pack 1 1 3 = 55", "value 0 1 5 = 55", "restore 0",
                "value 0 1 5 = 55"));
        Runs.run("restore of one keeps the other", "price 0 5", "save 0", "price 0 6", "save 1", "restore 0",
                "price 0 7", "restore 1", "kind 0 2 = 6", "restore 0", "kind 0 2 = 5");
    }
}
