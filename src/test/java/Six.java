import java.util.ArrayList;
import java.util.List;

/** Six bidders with three packages each, all that can be different being so: every row of the state is in use. */
final class Six {
    private Six() {
    }

    /** The lines that make them; the auction is over then. */
    static String[] start() {
        List<String> lines = new ArrayList<>(List.of("offer 0 9 1", "offer 1 8 1", "offer 2 7 1", "set 0 50"));
        for (int b = 0; b < 6; b++) {
            lines.add("join " + (94 + b) + " " + (4 + b));
        }
        for (int b = 0; b < 6; b++) {
            for (int k = 0; k < 3; k++) {
                lines.add("value " + b + " " + k + " " + value(b, k));
            }
            lines.add("ask " + b + " " + b % 3 + " 3");
        }
        lines.add("close = 0");
        for (int b = 0; b < 6; b++) {
            for (int i = 1; i <= 3; i++) {
                String lots = lots(b, i, 0) + " " + lots(b, i, 1) + " " + lots(b, i, 2);
                lines.add("add " + b + " " + lots + " " + worth(b, i) + " = " + i);
            }
        }
        return lines.toArray(new String[0]);
    }

    private static int value(int b, int k) {
        return 100 + 3 * b + k;
    }

    private static int lots(int b, int i, int k) {
        return (b + i + k) % 3;
    }

    private static int worth(int b, int i) {
        return 1000 + 10 * b + i;
    }

    /** What is due behind the start; the values come last, since asking for them changes them. */
    static String[] due() {
        List<String> lines = new ArrayList<>(List.of("about 0 = 6", "about 4 = 18"));
        for (int b = 0; b < 6; b++) {
            lines.add("bidder " + b + " 0 = 6");
            lines.add("bidder " + b + " 1 = " + (4 + b));
            for (int k = 0; k < 3; k++) {
                lines.add("demand " + b + " " + k + " = " + (k == b % 3 ? 3 : 0));
            }
            addPackages(lines, b);
        }
        for (int b = 0; b < 6; b++) {
            for (int k = 0; k < 3; k++) {
                lines.add("value " + b + " " + k + " 0 = " + value(b, k));
            }
        }
        return lines.toArray(new String[0]);
    }

    private static void addPackages(List<String> lines, int b) {
        for (int i = 1; i <= 3; i++) {
            for (int k = 0; k < 3; k++) {
                lines.add("pack " + b + " " + i + " " + k + " = " + lots(b, i, k));
            }
            lines.add("pack " + b + " " + i + " 3 = " + worth(b, i));
        }
    }
}
