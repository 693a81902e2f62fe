import java.util.ArrayList;
import java.util.List;

/**
 * "false, as for all calls that answer truth: a register, a variable or another number is none; nothing changes then":
 * each call that changes a register, with each of its arguments at the edges of what it may be and beyond them.
 */
public final class RefusedTest {
    private static final int REGISTERS = 32;
    private static final int MOST_CALLS = 512;
    private static final int MIN = Integer.MIN_VALUE;
    private static final int MAX = Integer.MAX_VALUE;

    /** What is none, among it what would be right if only some of its bits were looked at. */
    private static final int[] NO_REGISTERS = {
        -1, 32, 33, 37, 63, 64, 69, 256, 261, 65536, 65541, -27, -31, -32, MIN, MIN + 5, MAX
    };
    private static final int[] NO_VALUES = {-1, -2, 2, 3, 4, 5, 32, 33, 256, 257, 65537, MIN, MIN + 1, MAX};
    private static final int[] NO_OPERATIONS = {
        -1, -2, -3, -4, 4, 5, 6, 7, 8, 32, 33, 256, 257, 65537, MIN, MIN + 1, MAX
    };

    private final Checks checks;
    private final int n;
    private final PlainDesk before;

    private RefusedTest(Checks checks, int n) {
        this.checks = checks;
        this.n = n;
        before = filledPlain();
    }

    public static void main(String[] args) {
        Checks checks = new Checks();
        for (int n = 1; n <= 12; n++) {
            RefusedTest test = new RefusedTest(checks, n);
            test.registersThatAreNone();
            test.variablesThatAreNone();
            test.valuesThatAreNone();
            test.operationsThatAreNone();
            test.rangesThatAreNone();
            test.rowsOfRegistersThatAreNone();
            test.allWrongAtOnce();
            test.edgesThatAreTaken();
        }
        checks.end();
    }

    private void registersThatAreNone() {
        for (int none : NO_REGISTERS) {
            refused("constant", none, 1);
            refused("variable", none, 1);
            for (int op = 0; op < 4; op++) {
                refused("combine", none, op, 6, 7);
                refused("combine", 5, op, none, 7);
                refused("combine", 5, op, 6, none);
            }
            refused("choose", none, 6, 7, 8);
            refused("choose", 5, none, 7, 8);
            refused("choose", 5, 6, none, 8);
            refused("choose", 5, 6, 7, none);
            refused("fix", none, 6, 1, 1);
            refused("fix", 5, none, 1, 1);
            refused("exists", none, 6, 1, n);
            refused("exists", 5, none, 1, n);
            refused("substitute", none, 6, 7);
            refused("substitute", 5, none, 7);
            refused("nearest", none, 6, 7);
            refused("nearest", 5, none, 7);
            refused("nearest", 5, 6, none);
            refused("image", none, 6, n, 7);
            refused("image", 5, 6, n, none);
        }
    }

    private int[] noVariables() {
        return new int[] {0, -1, -n, n + 1, n + 2, n + 32, n + 64, 32, 33, 64, 257, 65537, MIN, MIN + 1, MAX};
    }

    private void variablesThatAreNone() {
        for (int none : noVariables()) {
            refused("variable", 5, none);
            refused("fix", 5, 6, none, 0);
            refused("fix", 5, 6, none, 1);
            refused("exists", 5, 6, none, n);
            refused("exists", 5, 6, 1, none);
            refused("exists", 5, 6, none, none);
            refused("image", 5, 6, none, 7);
            refused("image", 5, 0, none, 7);
        }
    }

    private void valuesThatAreNone() {
        for (int none : NO_VALUES) {
            refused("constant", 5, none);
            refused("fix", 5, 6, 1, none);
            refused("fix", 5, 6, n, none);
        }
    }

    private void operationsThatAreNone() {
        for (int none : NO_OPERATIONS) {
            refused("combine", 5, none, 6, 7);
        }
    }

    /** "1 &lt;= from &lt;= to &lt;= N" */
    private void rangesThatAreNone() {
        for (int from = 0; from <= n + 1; from++) {
            for (int to = 0; to <= n + 1; to++) {
                if (from < 1 || from > to || to > n) {
                    refused("exists", 5, 6, from, to);
                }
            }
        }
        refused("exists", 5, 6, MIN, MAX);
        refused("exists", 5, 6, MAX, MIN);
    }

    /** "those registers must all be there", and those of image too. */
    private void rowsOfRegistersThatAreNone() {
        for (int first : noFirst(n)) {
            refused("substitute", 5, 6, first);
        }
        for (int m = 1; m <= n; m++) {
            for (int first : noFirst(m)) {
                refused("image", 5, first, m, 7);
            }
        }
    }

    /** Too near the last register, before the first, or so large that the last of them wraps around. */
    private static int[] noFirst(int count) {
        return new int[] {
            REGISTERS - count + 1, 32, 33, 64, 256, -1, Math.min(-1, 1 - count), -count, -count - 1, -32,
            MIN, MIN + 1, MAX, MAX - count, MAX - count + 1, MAX - count + 2
        };
    }

    private void allWrongAtOnce() {
        for (int none : new int[] {-1, 32, MIN, MAX}) {
            refused("constant", none, none);
            refused("variable", none, none);
            refused("combine", none, none, none, none);
            refused("choose", none, none, none, none);
            refused("fix", none, none, none, none);
            refused("exists", none, none, none, none);
            refused("substitute", none, none, none);
            refused("nearest", none, none, none);
            refused("image", none, none, none, none);
        }
    }

    private void edgesThatAreTaken() {
        for (int edge : new int[] {0, 31}) {
            int inner = 31 - edge;
            taken("constant", edge, 1);
            taken("variable", edge, n);
            taken("combine", edge, 1, inner, 5);
            taken("combine", 5, 2, edge, inner);
            taken("choose", edge, 5, inner, 6);
            taken("choose", 5, edge, 6, inner);
            taken("fix", edge, inner, 1, 1);
            taken("exists", edge, inner, 1, n);
            taken("substitute", edge, inner, 5);
            taken("nearest", edge, inner, 5);
            taken("nearest", 5, 6, edge);
            taken("image", edge, 5, n, inner);
        }
        for (int value = 0; value <= 1; value++) {
            taken("constant", 5, value);
            taken("fix", 5, 6, 1, value);
            taken("fix", 5, 6, n, value);
        }
        for (int op = 0; op <= 3; op++) {
            taken("combine", 5, op, 6, 7);
        }
        for (int v = 1; v <= n; v++) {
            taken("variable", 5, v);
            taken("exists", 5, 6, v, v);
            taken("exists", 5, 6, 1, v);
            taken("exists", 5, 6, v, n);
            taken("image", 5, 0, v, 6);
            taken("image", 5, REGISTERS - v, v, 6);
            taken("image", REGISTERS - 1, REGISTERS - v, v, REGISTERS - 1);
        }
        taken("substitute", 5, 6, 0);
        taken("substitute", 5, 6, REGISTERS - n);
        taken("substitute", REGISTERS - 1, REGISTERS - 1, REGISTERS - n);
    }

    private void refused(String name, int... given) {
        ForkDesk desk = filledDesk();
        String what = said(name, given);
        checks.due(what, call(desk, name, given), false);
        unlikeNowhere(what + ", and then ", desk, before);
    }

    private void taken(String name, int... given) {
        ForkDesk desk = filledDesk();
        PlainDesk after = filledPlain();
        String what = said(name, given);
        checks.due(what + " by the plain desk", call(after, name, given), true);
        checks.due(what, call(desk, name, given), true);
        unlikeNowhere(what + ", and then ", desk, after);
    }

    /** As many points of each register as an object's calls allow; counts of the whole where they are not all. */
    private void unlikeNowhere(String what, ForkDesk desk, PlainDesk due) {
        boolean all = due.points * REGISTERS <= MOST_CALLS / 2;
        for (int k = 0; k < REGISTERS; k++) {
            if (all) {
                for (int point = 0; point < due.points; point++) {
                    checks.due(what + "at " + k + " " + point, desk.at(k, point), due.at(k, point));
                }
            } else {
                checks.due(what + "ones " + k, desk.ones(k), due.ones(k));
                checks.due(what + "least " + k, desk.least(k), due.least(k));
                int point = (k * 1237 + 11) % due.points;
                checks.due(what + "at " + k + " " + point, desk.at(k, point), due.at(k, point));
            }
        }
    }

    private String said(String name, int[] given) {
        List<String> texts = new ArrayList<>();
        for (int number : given) {
            texts.add(String.valueOf(number));
        }
        return "ForkDesk(" + n + ") " + name + "(" + String.join(", ", texts) + ")";
    }

    /** No register is like its neighbours, so that a call that goes to a wrong one is seen. */
    private static int[][] filling(int n) {
        int[][] rows = new int[2 * REGISTERS][];
        for (int k = 0; k < REGISTERS; k++) {
            rows[k] = new int[] {k, 1 + k % n};
            rows[REGISTERS + k] = new int[] {k, 1 + k % 2, (k * 7 + 3) % REGISTERS, (k * 5 + 1) % REGISTERS};
        }
        return rows;
    }

    private ForkDesk filledDesk() {
        ForkDesk desk = new ForkDesk(n);
        for (int[] row : filling(n)) {
            call(desk, row.length == 2 ? "variable" : "combine", row);
        }
        return desk;
    }

    private PlainDesk filledPlain() {
        PlainDesk desk = new PlainDesk(n);
        for (int[] row : filling(n)) {
            call(desk, row.length == 2 ? "variable" : "combine", row);
        }
        return desk;
    }

    private static boolean call(ForkDesk desk, String name, int[] x) {
        return switch (name) {
            case "constant" -> desk.constant(x[0], x[1]);
            case "variable" -> desk.variable(x[0], x[1]);
            case "combine" -> desk.combine(x[0], x[1], x[2], x[3]);
            case "choose" -> desk.choose(x[0], x[1], x[2], x[3]);
            case "fix" -> desk.fix(x[0], x[1], x[2], x[3]);
            case "exists" -> desk.exists(x[0], x[1], x[2], x[3]);
            case "substitute" -> desk.substitute(x[0], x[1], x[2]);
            case "nearest" -> desk.nearest(x[0], x[1], x[2]);
            case "image" -> desk.image(x[0], x[1], x[2], x[3]);
            default -> throw new IllegalArgumentException(name);
        };
    }

    private static boolean call(PlainDesk desk, String name, int[] x) {
        return switch (name) {
            case "constant" -> desk.constant(x[0], x[1]);
            case "variable" -> desk.variable(x[0], x[1]);
            case "combine" -> desk.combine(x[0], x[1], x[2], x[3]);
            case "choose" -> desk.choose(x[0], x[1], x[2], x[3]);
            case "fix" -> desk.fix(x[0], x[1], x[2], x[3]);
            case "exists" -> desk.exists(x[0], x[1], x[2], x[3]);
            case "substitute" -> desk.substitute(x[0], x[1], x[2]);
            case "nearest" -> desk.nearest(x[0], x[1], x[2]);
            case "image" -> desk.image(x[0], x[1], x[2], x[3]);
            default -> throw new IllegalArgumentException(name);
        };
    }
}
