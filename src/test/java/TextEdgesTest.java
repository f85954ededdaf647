import java.util.ArrayList;
import java.util.List;

/** Promises 1 to 5, sentence by sentence: a new object, and the text at its edges. */
public final class TextEdgesTest {
    private static final String[] FORMS = {"s299", "b999", "v52999", "q529", "w5", "c"};
    private static final String[][] LEAST_AND_MOST = {
        {"011", "299"}, {"001", "999"}, {"00000", "52999"}, {"000", "529"}, {"0", "5"}, {"", ""}
    };
    private static final String[] SIX = {
        "join 9 9", "join 9 9", "join 9 9", "join 9 9", "join 9 9", "join 9 9"
    };

    public static void main(String[] args) {
        newObject();
        append();
        clearText();
        firstCharacter();
        commandCharacters();
        digits();
        endsTooSoon();
        longTexts();
        errorPosition();
        loadRefused();
        loadAsNew();
        loadForgets();
        loadEdgesOfDigits();
        loadLeavesOutOffers();
        loadLeavesOutBidders();
        loadLeavesOutBids();
        loadLeavesOutWhenOver();
        leftOutChangesNothing();
        Check.end();
    }

    private static void newObject() {
        Runs.run("Creates an auction without bidders", "about 0 = 0", "bidder 0 0 = NO_SUCH", "demand 0 0 = NO_SUCH",
                "pack 0 0 0 = NO_SUCH", "value 0 0 0 = NO_SUCH", "ask 0 0 0 = NO_SUCH", "bid 0 = NO_SUCH",
                "add 0 1 0 0 10 = NO_SUCH", "drop 0 1 = NO_SUCH", "gets 0 = NO_SUCH", "pays 0 = NO_SUCH",
                "wouldAsk 0 0 = NO_SUCH", "best = 0", "leastMissed = NONE", "join 5 5 = 0");
        Runs.run("a supply, at first 2", "kind 0 0 = 2", "kind 1 0 = 2", "kind 2 0 = 2");
        Runs.run("points, at first 1", "kind 0 1 = 1", "kind 1 1 = 1", "kind 2 1 = 1");
        Runs.run("a price, at first 10", "kind 0 2 = 10", "kind 1 2 = 10", "kind 2 2 = 10");
        Runs.run("a value and a demand, at first 0", "join 9 9", "demand 0 0 = 0", "demand 0 1 = 0", "demand 0 2 = 0",
                "value 0 0 1 = 0", "value 0 1 1 = 0", "value 0 2 1 = 0");
        Runs.run("over or not, at first not", "about 2 = 0", "about 1 = 0", "close = 0");
        Runs.run("the activity that is asked for, at first 100", "setting 0 = 100");
        Runs.run("the step, at first 10", "setting 1 = 10");
        Runs.run("a new text is empty", "clearText = 0", "errorPosition = 0", "load = NOT_NOW");
        Runs.run("nothing is remembered at first", "undo = NOT_NOW");
        Runs.run("nothing is saved at first", "restore 0 = NOT_NOW", "restore 1 = NOT_NOW");
    }

    private static void append() {
        Runs.run("character code, 0 to 255", "append 0 = 1", "append 255 = 2", "append -1 = BAD", "append 256 = BAD",
                "append -2147483648 = BAD", "append 2147483647 = BAD", "append 76 = 3");
        Runs.run("at most 120 characters", Runs.lines("append 76 = 1", Runs.times(118, "append 99"), "append 99 = 120",
                "append 99 = NOT_NOW", "append 0 = NOT_NOW", "append 255 = NOT_NOW", "errorPosition = NONE",
                "clearText = 120"));
        Runs.run("c out of range, ahead of a full text", Runs.lines(Runs.times(120, "append 76"), "append -1 = BAD",
                "append 256 = BAD"));
        Runs.run("there is room again behind clearText", Runs.lines(Runs.times(120, "append 76"), "clearText = 120",
                "append 76 = 1", Runs.times(118, "append 99"), "append 99 = 120", "append 99 = NOT_NOW"));
        Runs.run("append is no action", "append 76", "undo = NOT_NOW", "join 9 9", "append 99", "undo = 0",
                "clearText = 2");
    }

    private static void clearText() {
        Runs.run("the previous length", "clearText = 0", "append 76", "clearText = 1", "clearText = 0");
        Runs.run("the previous length of a full text", Runs.lines(Runs.times(120, "append 76"), "clearText = 120"));
        Runs.run("empties the text", "write Lc", "clearText = 2", "errorPosition = 0", "load = NOT_NOW");
        Runs.run("clearText is no action, and the text is no part of the state", "join 9 9", "write L", "clearText = 1",
                "undo = 0", "undo = NOT_NOW", "clearText = 0");
    }

    /** The index of the first character that the rules do not allow; -1 if there is none. */
    private static void errorAt(String text, int due) {
        ClockLots x = new ClockLots();
        Check.write(x, text);
        Check.due("errorPosition of " + text, x.errorPosition(), due);
    }

    private static void firstCharacter() {
        for (char c = 0; c < 256; c++) {
            errorAt(String.valueOf(c), c == 'L' ? -1 : 0);
            errorAt(c + "c", c == 'L' ? -1 : 0);
        }
    }

    /** Behind the L and behind each whole command there may be any command, and nothing else. */
    private static void commandCharacters() {
        List<String> starts = new ArrayList<>(List.of("L"));
        for (String form : FORMS) {
            starts.add("L" + form);
        }
        for (String start : starts) {
            errorAt(start, -1);
            for (char c = 0; c < 256; c++) {
                int behind = c == 'c' ? -1 : start.length() + 1;
                errorAt(start + c, "sbvqwc".indexOf(c) >= 0 ? behind : start.length());
            }
        }
    }

    /** At each place of each command each character: only the digits that the document names. */
    private static void digits() {
        for (int form = 0; form < FORMS.length; form++) {
            String least = LEAST_AND_MOST[form][0];
            String most = LEAST_AND_MOST[form][1];
            for (int place = 0; place < least.length(); place++) {
                for (char c = 0; c < 256; c++) {
                    boolean allowed = c >= least.charAt(place) && c <= most.charAt(place);
                    String start = "L" + FORMS[form].charAt(0);
                    errorAt(start + least.substring(0, place) + c + least.substring(place + 1),
                            allowed ? -1 : 2 + place);
                    errorAt(start + most.substring(0, place) + c + most.substring(place + 1), allowed ? -1 : 2 + place);
                }
            }
        }
    }

    private static void endsTooSoon() {
        errorAt("", 0);
        for (String form : FORMS) {
            for (int n = 1; n < form.length(); n++) {
                errorAt("L" + form.substring(0, n), 1 + n);
                errorAt("Lcc" + form.substring(0, n), 3 + n);
            }
        }
    }

    private static void longTexts() {
        errorAt("L" + "c".repeat(119), -1);
        errorAt("L" + "c".repeat(118) + "L", 119);
        errorAt("L" + "c".repeat(118) + "w", 120);
        errorAt("L" + "c".repeat(117) + "w5", -1);
        errorAt("L" + "c".repeat(117) + "w6", 119);
        errorAt("L" + "c".repeat(113) + "v52999", -1);
        errorAt("L" + "c".repeat(114) + "v5299", 120);
        errorAt("L" + "c".repeat(118), -1);
    }

    private static void errorPosition() {
        Runs.run("the first character that is not allowed", "write Lcxcy", "errorPosition = 2");
        Runs.run("there are no blanks", "write L c", "errorPosition = 1", "write Ls 11", "errorPosition = 2",
                "write Lc ", "errorPosition = 2");
        Runs.run("Checks the text, and nothing else", "write Lb999q009cc", "errorPosition = NONE", "about 0 = 0");
        Runs.run("a text that leaves everything out is an auction", "write Lw0v00000q000", "errorPosition = NONE");
    }

    private static final String[] SAVED_AND_REMEMBERED = {
        "price 0 77", "save 0", "join 9 9", "value 0 0 90", "save 1", "ask 0 0 2"
    };

    private static void loadRefused() {
        Runs.run("load if the text is empty", Runs.lines(SAVED_AND_REMEMBERED, "load = NOT_NOW"));
        Runs.run("load if the text begins wrongly", Runs.lines(SAVED_AND_REMEMBERED, "write cL", "load = NOT_NOW"));
        Runs.run("load if the text ends too soon", Runs.lines(SAVED_AND_REMEMBERED, "write Lb99", "load = NOT_NOW"));
        Runs.run("load if the last character is wrong", Runs.lines(SAVED_AND_REMEMBERED, "write Lb991d",
                "load = NOT_NOW"));
        Runs.run("load if just a digit is wrong", Runs.lines(SAVED_AND_REMEMBERED, "write Lb990", "load = NOT_NOW"));
    }

    private static void loadAsNew() {
        String[] old = {
            "offer 0 9 8", "price 1 5", "set 0 50", "set 1 50", "join 99 9", "join 98 8", "value 0 0 99999", "ask 0 0 9",
            "close", "add 0 1 0 0 70", "add 0 2 0 0 80", "write L"
        };
        Runs.run("load: no commands, none left out", Runs.lines(old, "load = 0"));
        Runs.run("load: supplies and points as in a new object", Runs.lines(old, "load", "kind 0 0 = 2",
                "kind 0 1 = 1"));
        Runs.run("load: prices as in a new object", Runs.lines(old, "load", "kind 1 2 = 10"));
        Runs.run("load: settings as in a new object", Runs.lines(old, "load", "setting 0 = 100", "setting 1 = 10"));
        Runs.run("load: no rounds, not over", Runs.lines(old, "load", "about 1 = 0", "about 2 = 0"));
        Runs.run("load: no bidders", Runs.lines(old, "load", "about 0 = 0", "bidder 0 0 = NO_SUCH", "about 4 = 0"));
        Runs.run("load: a bidder that comes has no value, demand or package of an old one", Runs.lines(old, "load",
                "join 99 9 = 0", "demand 0 0 = 0", "bidder 0 3 = 0", "value 0 0 1 = 0"));
        Runs.run("load keeps the text", Runs.lines(old, "load", "load = 0", "clearText = 1"));
    }

    private static void loadForgets() {
        Runs.run("behind load no state is remembered", "price 0 5", "write Lb999c", "load = 0", "undo = NOT_NOW",
                "about 0 = 1");
        Runs.run("behind load both save slots are empty", "save 0", "save 1", "write L", "load = 0",
                "restore 0 = NOT_NOW", "restore 1 = NOT_NOW");
        Runs.run("load is not an action, and what follows it is remembered", "write Lb999", "load", "ask 0 0 1",
                "undo = 0", "about 0 = 1", "undo = NOT_NOW");
        Runs.run("what is saved behind load is there", "save 0", "write L", "load", "save 1 = 0", "restore 1 = 0",
                "restore 0 = NOT_NOW");
    }

    private static void loadEdgesOfDigits() {
        Runs.run("s at its least and at its most", "write Ls011s299", "load = 0", "kind 0 0 = 1", "kind 0 1 = 1",
                "kind 2 0 = 9", "kind 2 1 = 9");
        Runs.run("s again for the same kind", "write Ls134s156", "load = 0", "kind 1 0 = 5", "kind 1 1 = 6");
        Runs.run("b at its least and at its most", "write Lb001b999b101b019", "load = 0", "bidder 0 0 = 0",
                "bidder 0 1 = 1", "bidder 1 0 = 99", "bidder 1 1 = 9", "bidder 2 0 = 10", "bidder 3 0 = 1");
        Runs.run("v at its least and at its most", "write Lb999b999b999b999b999b999v00000v52999v21010v31100",
                "load = 0", "value 0 0 1 = 0", "value 5 2 1 = 999", "value 2 1 1 = 10", "value 3 1 1 = 100");
        Runs.run("q at its least and at its most", "write Ls291b999b999b999b999b999b999q529q000", "load = 0",
                "demand 5 2 = 9", "demand 0 0 = 0");
        Runs.run("w at its least and at its most", "write Lb999b999b999b999b999b999v00011v52012w0w5", "load = 0",
                "demand 0 0 = 2", "demand 5 2 = 2");
        Runs.run("c", "write Lc", "load = 0", "about 1 = 1", "about 2 = 1");
        Runs.run("a price that rises by c", "write Lb992b992q002q102c", "load = 0", "kind 0 2 = 11", "about 2 = 0");
        Runs.run("a text of 120 characters", "write L" + "c".repeat(119), "load = 118", "about 1 = 1",
                "clearText = 120");
    }

    private static void loadLeavesOutOffers() {
        Runs.run("s with bidders", "write Lb999s033", "load = 1", "kind 0 0 = 2");
        Runs.run("s behind a round", "write Lcs033", "load = 1", "kind 0 0 = 2");
    }

    private static void loadLeavesOutBidders() {
        Runs.run("six bidders", "write Lb999b999b999b999b999b998", "load = 0", "about 0 = 6", "bidder 5 1 = 8");
        Runs.run("a seventh bidder", "write Lb999b999b999b999b999b998b997", "load = 1", "about 0 = 6",
                "bidder 5 1 = 8");
        Runs.run("b behind a round", "write Lb992b992q002q102cb999", "load = 1", "about 0 = 2");
    }

    private static void loadLeavesOutBids() {
        Runs.run("v without such a bidder", "write Lb999v10500v00400", "load = 1", "value 0 0 0 = 400");
        Runs.run("v of six bidders", Runs.lines("write Lv50500v50500", SIX, "load = 2", "about 0 = 0"));
        Runs.run("q without such a bidder", "write Lb999q101q001", "load = 1", "demand 0 0 = 1");
        Runs.run("q above the cap", "write Ls091b993q004q003", "load = 1", "demand 0 0 = 3");
        Runs.run("q above the supply", "write Lb999q003q002", "load = 1", "demand 0 0 = 2");
        Runs.run("q above the right", "write Ls015b099q002q001", "load = 1", "demand 0 0 = 1");
        Runs.run("w without such a bidder", "write Lb999w1w0", "load = 1");
    }

    private static void loadLeavesOutWhenOver() {
        Runs.run("q when it is over", "write Lb999q001cq002q001q000", "load = 3", "demand 0 0 = 1");
        Runs.run("w when it is over", "write Lb999v00099cw0", "load = 1", "demand 0 0 = 0");
        Runs.run("c when it is over", "write Lb999ccc", "load = 2", "about 1 = 1");
        Runs.run("v when it is over is not left out", "write Lb999cv00099", "load = 0", "value 0 0 0 = 99");
    }

    private static void leftOutChangesNothing() {
        Runs.run("commands behind one that is left out are done", "write Lq000s033b999s044v90000", "load = NOT_NOW",
                "write Lq000s033b999s044v50000w0", "load = 3", "kind 0 0 = 3", "about 0 = 1");
        Runs.run("none is remembered, left out or not", "write Ls033b999s011q001", "load = 1", "undo = NOT_NOW");
    }
}
