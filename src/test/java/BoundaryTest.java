import java.util.Arrays;

/** Each sentence of the document that names a boundary case, in its order, with answers worked out by hand. */
public final class BoundaryTest {
    private static final int REGISTERS = 32;
    private static final int MOST_VARIABLES = 12;
    private static final int MOST_CALLS = 512;
    private static final int NONE = -1;
    private static final int MIN = Integer.MIN_VALUE;
    private static final int MAX = Integer.MAX_VALUE;
    private static final int[] NO_REGISTERS = {-1, -31, -32, 32, 33, 63, 64, 256, 65536, MIN, MIN + 1, MAX};

    private final Checks checks = new Checks();

    public static void main(String[] args) {
        BoundaryTest test = new BoundaryTest();
        test.lastCallOfAnObject();
        test.none();
        for (int n = 1; n <= MOST_VARIABLES; n++) {
            test.variablesFromOneToLast(n);
            test.highestBitIsOfVariableOne(n);
            test.everyPointHasAValue(n);
            test.registersAtFirst(n);
            test.fixedVariableIsNoneToDependOn(n);
            test.fixAtOnePoint(n);
            test.forksOfConstants(n);
            test.forksOfEqualFunctions(n);
            test.nearestByNothing(n);
            test.nearestByOnePoint(n);
            test.nearestByAll(n);
            test.nearestAcrossEachBit(n);
            test.constants(n);
            test.combineAtItsFourCases(n);
            test.chooseByConstants(n);
            test.existsOverEachRange(n);
            test.existsOfEmptyAndFull(n);
            test.substituteInReverse(n);
            test.substituteConstants(n);
            test.imageOfAllVariables(n);
            test.imageOfNothing(n);
            test.imageOfOnePoint(n);
            test.singlePoints(n);
            test.countsOfNoRegister(n);
            test.pointsThatAreNone(n);
            test.sameOrNot(n);
        }
        test.tooFewOrTooManyVariables();
        test.mostForks();
        test.nearestIsByBitsNotByDistance();
        test.substituteAllAtOnce();
        test.imageValuesAllAtOnePoint();
        test.imageWhateverTheOthersAre();
        test.checks.end();
    }

    /** "An object is used for at most 512 calls": the last two of them still change and answer. */
    private void lastCallOfAnObject() {
        for (int n : new int[] {1, 6, 12}) {
            ForkDesk desk = new ForkDesk(n);
            int calls = 0;
            while (calls < MOST_CALLS - 2) {
                desk.variable(calls % REGISTERS, 1 + calls % n);
                desk.forks(calls % REGISTERS);
                calls += 2;
            }
            checks.due("call 511 with " + n, desk.constant(31, 1), true);
            checks.due("call 512 with " + n, desk.ones(31), 1 << n);
        }
    }

    /** "`NONE = -1`: None." */
    private void none() {
        checks.due("NONE", ForkDesk.NONE, NONE);
    }

    /** "VARIABLES 1 .. N" */
    private void variablesFromOneToLast(int n) {
        ForkDesk desk = new ForkDesk(n);
        for (int v : new int[] {MIN, MIN + 1, -1, 0, n + 1, n + 2, n + 32, 32, 33, 64, 65, MAX}) {
            checks.due(n + ": variable " + v, desk.variable(0, v), false);
            checks.due(n + ": nothing of variable " + v, desk.ones(0), 0);
        }
        for (int v = 1; v <= n; v++) {
            checks.due(n + ": variable " + v, desk.variable(0, v), true);
            checks.due(n + ": half of variable " + v, desk.ones(0), 1 << (n - 1));
        }
    }

    /** "its NUMBER has N bits, that of variable 1 the highest" */
    private void highestBitIsOfVariableOne(int n) {
        ForkDesk desk = withVariables(n);
        for (int v = 1; v <= n; v++) {
            int weight = 1 << (n - v);
            checks.due(n + ": variable " + v + " at all 0", desk.at(v, 0), 0);
            checks.due(n + ": variable " + v + " where only it is 1", desk.at(v, weight), 1);
            checks.due(n + ": variable " + v + " where only it is 0", desk.at(v, (1 << n) - 1 - weight), 0);
            checks.due(n + ": variable " + v + " at all 1", desk.at(v, (1 << n) - 1), 1);
            checks.due(n + ": least of variable " + v, desk.least(v), weight);
        }
    }

    /** "A FUNCTION is 0 or 1 at each point." */
    private void everyPointHasAValue(int n) {
        for (int start = 0; start < 1 << n; start += 256) {
            ForkDesk desk = withVariables(n);
            for (int point = start; point < Math.min(start + 256, 1 << n); point++) {
                int v = 1 + point % n;
                checks.due(n + ": variable " + v + " at " + point, desk.at(v, point), (point >> (n - v)) & 1);
            }
        }
    }

    /** "REGISTERS 0 .. 31 hold functions, at first the constant 0." */
    private void registersAtFirst(int n) {
        ForkDesk desk = new ForkDesk(n);
        for (int k = 0; k < REGISTERS; k++) {
            checks.due(n + ": ones at first " + k, desk.ones(k), 0);
            checks.due(n + ": least at first " + k, desk.least(k), NONE);
            checks.due(n + ": at the last point at first " + k, desk.at(k, (1 << n) - 1), 0);
            checks.due(n + ": same at first " + k, desk.same(k, 31 - k), true);
        }
        for (int k = 0; k < REGISTERS; k++) {
            desk.constant(k, 1);
            checks.due(n + ": now 1 " + k, desk.ones(k), 1 << n);
            checks.due(n + ": the next is as it was " + k, desk.ones(k + 1), k == 31 ? NONE : 0);
        }
    }

    /** "A function DEPENDS on a variable if fixing it to 0 and to 1 gives different functions." */
    private void fixedVariableIsNoneToDependOn(int n) {
        ForkDesk desk = withVariables(n);
        odd(desk, 0, n);
        for (int v = 1; v <= n; v++) {
            desk.fix(20, 0, v, 0);
            desk.fix(21, 0, v, 1);
            checks.due(n + ": odd depends on " + v, desk.same(20, 21), false);
            desk.fix(22, 20, v, 1);
            checks.due(n + ": fixed to 0 and again " + v, desk.same(20, 22), true);
            desk.fix(22, 21, v, 0);
            checks.due(n + ": fixed to 1 and again " + v, desk.same(21, 22), true);
            desk.combine(22, 2, 20, 21);
            checks.due(n + ": the two differ everywhere " + v, desk.ones(22), 1 << n);
            checks.due(n + ": forks of the rest " + v, desk.forks(20), n == 1 ? 0 : 2 * (n - 1) - 1);
        }
    }

    /** "with variable v fixed to a value, 0 or 1": of a function that is 1 at the last point alone. */
    private void fixAtOnePoint(int n) {
        ForkDesk desk = withVariables(n);
        int last = (1 << n) - 1;
        point(desk, 0, last, n);
        for (int v = 1; v <= n; v++) {
            checks.due(n + ": fix to 0 " + v, desk.fix(20, 0, v, 0), true);
            checks.due(n + ": nowhere " + v, desk.ones(20), 0);
            checks.due(n + ": fix to 1 " + v, desk.fix(20, 0, v, 1), true);
            checks.due(n + ": at two points " + v, desk.ones(20), 2);
            checks.due(n + ": at the last " + v, desk.at(20, last), 1);
            checks.due(n + ": and across " + v, desk.at(20, last - (1 << (n - v))), 1);
            checks.due(n + ": fix to 2 " + v, desk.fix(20, 0, v, 2), false);
            checks.due(n + ": fix to -1 " + v, desk.fix(20, 0, v, -1), false);
            checks.due(n + ": still at two points " + v, desk.ones(20), 2);
        }
    }

    /** "(constants are none)" */
    private void forksOfConstants(int n) {
        ForkDesk desk = new ForkDesk(n);
        checks.due(n + ": forks of 0", desk.forks(31), 0);
        desk.constant(31, 1);
        checks.due(n + ": forks of 1", desk.forks(31), 0);
    }

    /** "the different functions that come of it by fixing the variables 1 .. v - 1 in some way and that depend on v" */
    private void forksOfEqualFunctions(int n) {
        ForkDesk desk = withVariables(n);
        for (int v = 1; v <= n; v++) {
            checks.due(n + ": forks of variable " + v, desk.forks(v), 1);
        }
        odd(desk, 0, n);
        checks.due(n + ": forks of odd", desk.forks(0), 2 * n - 1);
        desk.constant(20, 1);
        desk.combine(20, 2, 20, 0);
        checks.due(n + ": forks of even", desk.forks(20), 2 * n - 1);
        desk.combine(20, 2, 1, n);
        checks.due(n + ": forks of either the first or the last", desk.forks(20), n == 1 ? 0 : 3);
    }

    /** "(If c is 0 everywhere: 0.)" */
    private void nearestByNothing(int n) {
        ForkDesk desk = withVariables(n);
        desk.constant(20, 1);
        desk.constant(21, 1);
        checks.due(n + ": nearest of 1 by 0", desk.nearest(21, 20, 0), true);
        checks.due(n + ": is 0", desk.ones(21), 0);
        checks.due(n + ": nearest of 1 by 0 into itself", desk.nearest(20, 20, 0), true);
        checks.due(n + ": is 0 too", desk.ones(20), 0);
    }

    /** "what f has at that point where c is 1 whose number differs least": if there is one alone, it is for all. */
    private void nearestByOnePoint(int n) {
        ForkDesk desk = withVariables(n);
        for (int only : edgePoints(n)) {
            point(desk, 20, only, n);
            int v = 1 + only % n;
            desk.nearest(21, v, 20);
            checks.due(n + ": variable " + v + " by " + only, desk.ones(21), ((only >> (n - v)) & 1) << n);
            desk.nearest(21, 20, 20);
            checks.due(n + ": itself by " + only, desk.ones(21), 1 << n);
        }
    }

    /** The same, if c is 1 everywhere: the point itself differs least. */
    private void nearestByAll(int n) {
        ForkDesk desk = withVariables(n);
        desk.constant(20, 1);
        odd(desk, 0, n);
        for (int k = 0; k <= n; k++) {
            desk.nearest(21, k, 20);
            checks.due(n + ": nearest by 1 " + k, desk.same(21, k), true);
        }
    }

    /** "the result of this (1 where they differ), read as a number, is least": 2 ^ bit or the one before it. */
    private void nearestAcrossEachBit(int n) {
        for (int bit = 0; bit < n; bit++) {
            ForkDesk desk = withVariables(n);
            point(desk, 20, 1 << bit, n);
            point(desk, 21, (1 << bit) - 1, n);
            desk.combine(22, 1, 20, 21);
            checks.due(n + ": nearest by two", desk.nearest(23, 20, 22), true);
            checks.due(n + ": those that have bit " + bit, desk.same(23, n - bit), true);
            desk.nearest(23, 21, 22);
            desk.combine(23, 2, 23, n - bit);
            checks.due(n + ": those that do not have bit " + bit, desk.ones(23), 1 << n);
        }
    }

    /** Neither as numbers nor in how many bits they differ. */
    private void nearestIsByBitsNotByDistance() {
        ForkDesk desk = withVariables(3);
        point(desk, 20, 3, 3);
        point(desk, 21, 7, 3);
        desk.combine(22, 1, 20, 21);
        desk.nearest(23, 21, 22);
        checks.due("4 is by 7, not by 3", desk.at(23, 4), 1);
        point(desk, 21, 4, 3);
        desk.combine(22, 1, 20, 21);
        desk.nearest(23, 20, 22);
        checks.due("0 is by 3, not by 4", desk.at(23, 0), 1);
        checks.due("7 is by 4, not by 3", desk.at(23, 7), 0);
    }

    /** "N is variables, 1 if that is less, 12 if it is more." */
    private void tooFewOrTooManyVariables() {
        int[][] given = {
            {MIN, 1}, {MIN + 1, 1}, {-12, 1}, {-1, 1}, {0, 1}, {1, 1}, {2, 2}, {11, 11}, {12, 12}, {13, 12}, {32, 12},
            {33, 12}, {64, 12}, {256, 12}, {65537, 12}, {MAX - 1, 12}, {MAX, 12}
        };
        for (int[] pair : given) {
            ForkDesk desk = new ForkDesk(pair[0]);
            String made = "ForkDesk(" + pair[0] + ") ";
            checks.due(made + "constant", desk.constant(0, 1), true);
            checks.due(made + "ones", desk.ones(0), 1 << pair[1]);
            checks.due(made + "last point", desk.at(0, (1 << pair[1]) - 1), 1);
            checks.due(made + "no point", desk.at(0, 1 << pair[1]), NONE);
            checks.due(made + "no variable", desk.variable(0, pair[1] + 1), false);
            checks.due(made + "last variable", desk.variable(0, pair[1]), true);
            checks.due(made + "least", desk.least(0), 1);
        }
    }

    /** "Register k becomes a constant, 0 or 1: true" */
    private void constants(int n) {
        ForkDesk desk = new ForkDesk(n);
        for (int k : new int[] {0, 31}) {
            checks.due(n + ": constant 1", desk.constant(k, 1), true);
            checks.due(n + ": full", desk.ones(k), 1 << n);
            for (int value : new int[] {-1, 2, 3, 256, 257, MIN, MIN + 1, MAX}) {
                checks.due(n + ": constant " + value, desk.constant(k, value), false);
                checks.due(n + ": still full after " + value, desk.ones(k), 1 << n);
            }
            checks.due(n + ": constant 0", desk.constant(k, 0), true);
            checks.due(n + ": empty", desk.ones(k), 0);
            for (int value : new int[] {-1, 2, 3, 256, 257, MIN, MIN + 1, MAX}) {
                checks.due(n + ": constant " + value, desk.constant(k, value), false);
                checks.due(n + ": still empty after " + value, desk.ones(k), 0);
            }
        }
    }

    /** "a and b (op 0), a or b (1), either a or b (2), a but not b (3)": with empty and full ones. */
    private void combineAtItsFourCases(int n) {
        int[][] due = {{0, 0, 0, 1}, {0, 1, 1, 1}, {0, 1, 1, 0}, {0, 0, 1, 0}};
        ForkDesk desk = new ForkDesk(n);
        desk.constant(1, 1);
        for (int op = 0; op < due.length; op++) {
            for (int both = 0; both < 4; both++) {
                String what = n + ": op " + op + " of " + both / 2 + " and " + both % 2;
                checks.due(what, desk.combine(20, op, both / 2, both % 2), true);
                checks.due(what + " ones", desk.ones(20), due[op][both] << n);
            }
        }
        desk.constant(20, 1);
        for (int op : new int[] {MIN, -1, 4, 5, MAX}) {
            checks.due(n + ": op " + op, desk.combine(20, op, 0, 0), false);
            checks.due(n + ": nothing of op " + op, desk.ones(20), 1 << n);
        }
    }

    /** "b where a is 1, else c" */
    private void chooseByConstants(int n) {
        ForkDesk desk = withVariables(n);
        desk.constant(20, 1);
        odd(desk, 21, n);
        checks.due(n + ": by 1", desk.choose(22, 20, 21, n), true);
        checks.due(n + ": b everywhere", desk.same(22, 21), true);
        checks.due(n + ": by 0", desk.choose(22, 0, 21, n), true);
        checks.due(n + ": c everywhere", desk.same(22, n), true);
        desk.choose(22, 1, 20, 0);
        checks.due(n + ": 1 or 0 by variable 1", desk.same(22, 1), true);
        desk.choose(22, 1, 0, 20);
        desk.combine(22, 2, 22, 1);
        checks.due(n + ": 0 or 1 by variable 1", desk.ones(22), 1 << n);
    }

    /** "1 where a is 1 for some values of the variables from .. to (1 &lt;= from &lt;= to &lt;= N)" */
    private void existsOverEachRange(int n) {
        ForkDesk desk = withVariables(n);
        int last = (1 << n) - 1;
        point(desk, 20, last, n);
        for (int from = 1; from <= n; from++) {
            for (int to = from; to <= n; to++) {
                int count = to - from + 1;
                int inRange = ((1 << count) - 1) << (n - to);
                String what = n + ": exists " + from + " " + to;
                checks.due(what, desk.exists(21, 20, from, to), true);
                checks.due(what + " ones", desk.ones(21), 1 << count);
                checks.due(what + " least", desk.least(21), last - inRange);
                checks.due(what + " forks", desk.forks(21), n - count);
            }
        }
        checks.due(n + ": exists 0 1", desk.exists(20, 20, 0, 1), false);
        checks.due(n + ": exists 1 and one too many", desk.exists(20, 20, 1, n + 1), false);
        checks.due(n + ": exists behind the last", desk.exists(20, 20, n + 1, n + 1), false);
        checks.due(n + ": exists the wrong way", desk.exists(20, 20, n, n - 1), false);
        checks.due(n + ": nothing has changed", desk.ones(20), 1);
    }

    /** "whatever they are there": of 0 it is 0, of 1 it is 1. */
    private void existsOfEmptyAndFull(int n) {
        ForkDesk desk = new ForkDesk(n);
        desk.constant(20, 1);
        for (int v = 1; v <= n; v++) {
            desk.exists(21, 0, 1, v);
            checks.due(n + ": exists of 0 to " + v, desk.ones(21), 0);
            desk.exists(21, 20, v, n);
            checks.due(n + ": exists of 1 from " + v, desk.ones(21), 1 << n);
        }
    }

    /** "each variable v is replaced by what register first + v - 1 has (those registers must all be there)" */
    private void substituteInReverse(int n) {
        for (int first : new int[] {0, REGISTERS - n}) {
            int a = first == 0 ? 31 : 0;
            ForkDesk desk = new ForkDesk(n);
            for (int v = 1; v <= n; v++) {
                desk.variable(first + v - 1, n + 1 - v);
            }
            int apart = a == 0 ? 1 : 30;
            for (int v = 1; v <= n; v++) {
                desk.variable(a, v);
                checks.due(n + ": from " + first + " variable " + v, desk.substitute(a, a, first), true);
                desk.variable(apart, n + 1 - v);
                checks.due(n + ": from " + first + " turned round " + v, desk.same(a, apart), true);
            }
            desk.constant(a, 1);
            for (int none : new int[] {MIN, -n, -1, REGISTERS - n + 1, 32, MAX - n, MAX - n + 1, MAX - n + 2, MAX}) {
                checks.due(n + ": from " + none, desk.substitute(a, first, none), false);
                checks.due(n + ": as it was after " + none, desk.ones(a), 1 << n);
            }
        }
    }

    /** The same with constants: all points are asked at one. */
    private void substituteConstants(int n) {
        ForkDesk desk = withVariables(n);
        for (int asked : edgePoints(n)) {
            for (int v = 1; v <= n; v++) {
                desk.constant(19 + v, (asked >> (n - v)) & 1);
            }
            int v = 1 + asked % n;
            desk.substitute(13, v, 20);
            checks.due(n + ": variable " + v + " asked at " + asked, desk.ones(13), ((asked >> (n - v)) & 1) << n);
        }
    }

    /** "all at once": one after the other would make of 1 but not 2, with the two exchanged, nothing. */
    private void substituteAllAtOnce() {
        ForkDesk desk = withVariables(2);
        desk.combine(20, 3, 1, 2);
        desk.variable(10, 2);
        desk.variable(11, 1);
        desk.substitute(21, 20, 10);
        holds("exchanged", desk, 21, "0100");
        desk.substitute(10, 20, 10);
        holds("exchanged, into the first", desk, 10, "0100");
        desk.variable(10, 2);
        desk.substitute(11, 20, 10);
        holds("exchanged, into the last", desk, 11, "0100");
    }

    /** "the variables 1 .. m (1 &lt;= m &lt;= N)" */
    private void imageOfAllVariables(int n) {
        ForkDesk desk = withVariables(n);
        desk.constant(17, 1);
        odd(desk, 18, n);
        for (int m = 1; m <= n; m++) {
            checks.due(n + ": image " + m, desk.image(19, 1, m, 17), true);
            checks.due(n + ": image everywhere " + m, desk.ones(19), 1 << n);
            checks.due(n + ": image where odd " + m, desk.image(19, 1, m, 18), true);
            checks.due(n + ": image where odd, ones " + m, desk.ones(19), m == n ? 1 << (n - 1) : 1 << n);
            checks.due(n + ": the last registers " + m, desk.image(19, REGISTERS - m, m, 17), true);
            checks.due(n + ": the last registers, ones " + m, desk.ones(19), 1 << (n - m));
            checks.due(n + ": one register too few " + m, desk.image(17, REGISTERS - m + 1, m, 17), false);
            checks.due(n + ": one register before the first " + m, desk.image(17, -1, m, 17), false);
        }
        for (int m : new int[] {MIN, -n, -1, 0, n + 1, n + 2, n + 32, MAX}) {
            checks.due(n + ": image " + m, desk.image(17, 1, m, 17), false);
        }
        checks.due(n + ": nothing has changed", desk.ones(17), 1 << n);
    }

    /** "all at one point where c is 1": without one there is no point. */
    private void imageOfNothing(int n) {
        ForkDesk desk = withVariables(n);
        desk.constant(20, 1);
        for (int m = 1; m <= n; m++) {
            checks.due(n + ": image by 0 " + m, desk.image(20, 1, m, 0), true);
            checks.due(n + ": nowhere " + m, desk.ones(20), 0);
            desk.constant(20, 1);
        }
    }

    /** The same with one: the point itself, and those that are like it in the variables 1 .. m. */
    private void imageOfOnePoint(int n) {
        for (int only : edgePoints(n)) {
            ForkDesk desk = withVariables(n);
            point(desk, 20, only, n);
            for (int m = 1; m <= n; m++) {
                desk.image(21, 1, m, 20);
                String what = n + ": image of " + only + " in " + m;
                checks.due(what, desk.ones(21), 1 << (n - m));
                checks.due(what + " from", desk.least(21), (only >> (n - m)) << (n - m));
                checks.due(what + " has it", desk.at(21, only), 1);
            }
        }
    }

    /** "the values that the registers first, first + 1, .. have all at one point": not each at another. */
    private void imageValuesAllAtOnePoint() {
        ForkDesk desk = withVariables(2);
        desk.constant(20, 1);
        desk.variable(10, 1);
        desk.combine(11, 3, 20, 1);
        desk.image(21, 10, 2, 20);
        holds("variable 1 and its contrary", desk, 21, "0110");
        desk.image(21, 10, 2, 1);
        holds("where variable 1 is 1", desk, 21, "0010");
        desk.image(10, 10, 2, 20);
        holds("into the first", desk, 10, "0110");
    }

    /** "whatever the other variables are", and "just at the points" */
    private void imageWhateverTheOthersAre() {
        ForkDesk desk = withVariables(3);
        desk.constant(20, 1);
        point(desk, 21, 5, 3);
        desk.image(22, 20, 1, 21);
        holds("1 at one point", desk, 22, "00001111");
        desk.image(22, 21, 1, 20);
        holds("one point's function everywhere", desk, 22, "11111111");
        desk.image(22, 20, 2, 20);
        holds("1, and one point's function", desk, 22, "00001111");
        desk.image(22, 20, 2, 21);
        holds("the same at that point", desk, 22, "00000011");
    }

    /** "NONE if there is none such", "NONE without one, or without the register" and "false also if one is none" */
    private void countsOfNoRegister(int n) {
        ForkDesk desk = new ForkDesk(n);
        for (int k = 0; k < REGISTERS; k++) {
            desk.constant(k, 1);
        }
        for (int none : NO_REGISTERS) {
            String what = n + ": register " + none;
            checks.due(what + " forks", desk.forks(none), NONE);
            checks.due(what + " ones", desk.ones(none), NONE);
            checks.due(what + " least", desk.least(none), NONE);
            checks.due(what + " at", desk.at(none, 0), NONE);
            checks.due(what + " at the last point", desk.at(none, (1 << n) - 1), NONE);
            checks.due(what + " at no point", desk.at(none, 1 << n), NONE);
            checks.due(what + " same as 0", desk.same(none, 0), false);
            checks.due(what + " same as 31", desk.same(31, none), false);
            checks.due(what + " same as itself", desk.same(none, none), false);
        }
    }

    /** "At how many points", "The least number of a point", "What register k has at a point": one point alone. */
    private void singlePoints(int n) {
        ForkDesk desk = withVariables(n);
        for (int only : edgePoints(n)) {
            point(desk, 31, only, n);
            String what = n + ": point " + only;
            checks.due(what + " ones", desk.ones(31), 1);
            checks.due(what + " least", desk.least(31), only);
            checks.due(what + " forks", desk.forks(31), n);
            checks.due(what + " at it", desk.at(31, only), 1);
            checks.due(what + " at the one before", desk.at(31, only - 1), only == 0 ? NONE : 0);
            checks.due(what + " at the next", desk.at(31, only + 1), only + 1 == 1 << n ? NONE : 0);
            checks.due(what + " same as 0", desk.same(31, 0), false);
        }
        checks.due(n + ": least of 0", desk.least(0), NONE);
        checks.due(n + ": ones of 0", desk.ones(0), 0);
        desk.constant(0, 1);
        checks.due(n + ": least of 1", desk.least(0), 0);
        checks.due(n + ": ones of 1", desk.ones(0), 1 << n);
    }

    /** "NONE if there is no such register or point" */
    private void pointsThatAreNone(int n) {
        ForkDesk desk = new ForkDesk(n);
        desk.constant(0, 1);
        int points = 1 << n;
        int[] noPoints = {-1, -points, -points - 1, points, points + 1, 2 * points, 4096, 65536, MIN, MIN + 1, MAX};
        for (int none : noPoints) {
            checks.due(n + ": at " + none, desk.at(0, none), NONE);
        }
        checks.due(n + ": at the first", desk.at(0, 0), 1);
        checks.due(n + ": at the last", desk.at(0, points - 1), 1);
    }

    /** "Whether two registers hold the same function": not if they differ at one point alone. */
    private void sameOrNot(int n) {
        ForkDesk desk = withVariables(n);
        odd(desk, 20, n);
        for (int only : edgePoints(n)) {
            point(desk, 21, only, n);
            desk.combine(22, 2, 20, 21);
            checks.due(n + ": unlike at " + only, desk.same(20, 22), false);
            checks.due(n + ": the other way", desk.same(22, 20), false);
            desk.combine(22, 2, 22, 21);
            checks.due(n + ": alike again", desk.same(20, 22), true);
        }
        checks.due(n + ": with itself", desk.same(20, 20), true);
        checks.due(n + ": two of 0", desk.same(0, 31), true);
    }

    /** "all counted": functions that have as many forks as can be with 11 and with 12 variables. */
    private void mostForks() {
        ForkDesk eleven = withVariables(11);
        oneOfEight(eleven, 31, 9);
        checks.due("11: most forks", eleven.forks(31), 255 + 240 + 12 + 2);

        ForkDesk twelve = withVariables(12);
        oneOfEight(twelve, 31, 10);
        // Variable 9 turns one of the eight round, so that both its values give all functions of the last three.
        twelve.combine(30, 3, 9, 10);
        twelve.combine(30, 3, 30, 11);
        twelve.combine(30, 3, 30, 12);
        twelve.combine(31, 2, 31, 30);
        checks.due("12: most forks", twelve.forks(31), 511 + 240 + 12 + 2);
    }

    /** Register k becomes that one of the variables 1 .. 8 that three variables choose. */
    private static void oneOfEight(ForkDesk desk, int k, int chooser) {
        for (int v = 1; v <= 8; v += 2) {
            desk.choose(20 + v, chooser + 2, v, v + 1);
        }
        desk.choose(21, chooser + 1, 21, 23);
        desk.choose(25, chooser + 1, 25, 27);
        desk.choose(k, chooser, 21, 25);
    }

    /** The first and the last points, and those at the ends of 32 and of 64. */
    private static int[] edgePoints(int n) {
        int last = (1 << n) - 1;
        int[] wanted = {0, 1, 31, 32, 63, 64, 65, 127, 128, last / 2, last / 2 + 1, last - 1, last};
        int count = 0;
        int[] found = new int[wanted.length];
        for (int point : wanted) {
            if (point <= last) {
                found[count++] = point;
            }
        }
        return Arrays.copyOf(found, count);
    }

    /** A new object whose register v holds variable v. */
    private static ForkDesk withVariables(int n) {
        ForkDesk desk = new ForkDesk(n);
        for (int v = 1; v <= n; v++) {
            desk.variable(v, v);
        }
        return desk;
    }

    /** Register k becomes 1 at one point alone. */
    private static void point(ForkDesk desk, int k, int only, int n) {
        desk.constant(k, 1);
        for (int v = 1; v <= n; v++) {
            boolean isOne = ((only >> (n - v)) & 1) == 1;
            desk.combine(k, isOne ? 0 : 3, k, v);
        }
    }

    /** Register k becomes 1 where an odd number of the variables is 1. */
    private static void odd(ForkDesk desk, int k, int n) {
        desk.constant(k, 0);
        for (int v = 1; v <= n; v++) {
            desk.combine(k, 2, k, v);
        }
    }

    private void holds(String what, ForkDesk desk, int k, String values) {
        StringBuilder text = new StringBuilder();
        for (int point = 0; point < values.length(); point++) {
            text.append(desk.at(k, point));
        }
        checks.due(what, text.toString(), values);
    }
}
