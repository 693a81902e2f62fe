/** Each promise of the document by its number, with answers worked out by hand. */
public final class PromiseTest {
    private static final int[] NO_REGISTERS = {-1, 32, Integer.MIN_VALUE, Integer.MAX_VALUE};

    private final Checks checks = new Checks();

    public static void main(String[] args) {
        PromiseTest test = new PromiseTest();
        test.promise1NewObject();
        test.promise2Constant();
        test.promise3Variable();
        test.promise4Combine();
        test.promise5Choose();
        test.promise6Fix();
        test.promise7Exists();
        test.promise8Substitute();
        test.promise9Nearest();
        test.promise10Image();
        test.promise11Forks();
        test.promise12Ones();
        test.promise13Least();
        test.promise14At();
        test.promise15Same();
        test.checks.end();
    }

    private void promise1NewObject() {
        int[][] given = {
            {Integer.MIN_VALUE, 1}, {-1, 1}, {0, 1}, {1, 1}, {2, 2}, {5, 5}, {6, 6}, {7, 7}, {11, 11}, {12, 12},
            {13, 12}, {Integer.MAX_VALUE, 12}
        };
        for (int[] pair : given) {
            String made = "1: ForkDesk(" + pair[0] + ") ";
            ForkDesk desk = new ForkDesk(pair[0]);
            for (int k = 0; k < 32; k++) {
                checks.due(made + "ones " + k, desk.ones(k), 0);
                checks.due(made + "forks " + k, desk.forks(k), 0);
            }
            checks.due(made + "last point", desk.at(31, (1 << pair[1]) - 1), 0);
            checks.due(made + "point behind it", desk.at(31, 1 << pair[1]), -1);
            checks.due(made + "last variable", desk.variable(0, pair[1]), true);
            checks.due(made + "variable behind it", desk.variable(0, pair[1] + 1), false);
            checks.due(made + "ones of the last variable", desk.ones(0), 1 << (pair[1] - 1));
        }
        ForkDesk one = new ForkDesk(3);
        ForkDesk other = new ForkDesk(3);
        one.constant(0, 1);
        holds("1: another object", other, 0, "00000000");
    }

    private void promise2Constant() {
        ForkDesk desk = new ForkDesk(3);
        checks.due("2: to 1", desk.constant(5, 1), true);
        holds("2: to 1", desk, 5, "11111111");
        holds("2: the register before it", desk, 4, "00000000");
        holds("2: the register behind it", desk, 6, "00000000");
        for (int value : new int[] {-1, 2, 3, Integer.MIN_VALUE, Integer.MAX_VALUE}) {
            checks.due("2: to " + value, desk.constant(5, value), false);
        }
        for (int k : NO_REGISTERS) {
            checks.due("2: register " + k, desk.constant(k, 1), false);
        }
        holds("2: after wrong calls", desk, 5, "11111111");
        checks.due("2: to 0", desk.constant(5, 0), true);
        holds("2: to 0", desk, 5, "00000000");
        checks.due("2: first register", desk.constant(0, 1), true);
        checks.due("2: last register", desk.constant(31, 1), true);
        checks.due("2: first and last", desk.same(0, 31), true);
        for (int n = 1; n <= 12; n++) {
            ForkDesk any = new ForkDesk(n);
            any.constant(0, 1);
            checks.due("2: ones of 1 with " + n + " variables", any.ones(0), 1 << n);
        }
    }

    private void promise3Variable() {
        ForkDesk desk = withVariables(3);
        holds("3: variable 1", desk, 1, "00001111");
        holds("3: variable 2", desk, 2, "00110011");
        holds("3: variable 3", desk, 3, "01010101");
        for (int v : new int[] {0, 4, -1, Integer.MIN_VALUE, Integer.MAX_VALUE}) {
            checks.due("3: variable " + v, desk.variable(1, v), false);
        }
        for (int k : NO_REGISTERS) {
            checks.due("3: register " + k, desk.variable(k, 1), false);
        }
        holds("3: after wrong calls", desk, 1, "00001111");
        checks.due("3: over another", desk.variable(1, 3), true);
        holds("3: over another", desk, 1, "01010101");
        ForkDesk wide = new ForkDesk(12);
        for (int v = 1; v <= 12; v++) {
            wide.variable(0, v);
            checks.due("3: ones of variable " + v + " of 12", wide.ones(0), 2048);
            checks.due("3: least of variable " + v + " of 12", wide.least(0), 1 << (12 - v));
            checks.due("3: forks of variable " + v + " of 12", wide.forks(0), 1);
        }
    }

    private void promise4Combine() {
        ForkDesk desk = withVariables(3);
        String[] due = {"00010001", "01110111", "01100110", "00100010"};
        for (int op = 0; op < due.length; op++) {
            checks.due("4: op " + op, desk.combine(9, op, 2, 3), true);
            holds("4: op " + op, desk, 9, due[op]);
        }
        for (int op : new int[] {-1, 4, Integer.MIN_VALUE, Integer.MAX_VALUE}) {
            checks.due("4: op " + op, desk.combine(9, op, 1, 1), false);
        }
        for (int none : NO_REGISTERS) {
            checks.due("4: into " + none, desk.combine(none, 1, 1, 1), false);
            checks.due("4: a " + none, desk.combine(9, 1, none, 1), false);
            checks.due("4: b " + none, desk.combine(9, 1, 1, none), false);
        }
        holds("4: after wrong calls", desk, 9, "00100010");
        desk.combine(2, 3, 2, 3);
        holds("4: into a", desk, 2, "00100010");
        desk.combine(3, 3, 1, 3);
        holds("4: into b", desk, 3, "00001010");
        desk.combine(3, 2, 3, 3);
        holds("4: all one register", desk, 3, "00000000");
    }

    private void promise5Choose() {
        ForkDesk desk = withVariables(3);
        checks.due("5: by 1", desk.choose(9, 1, 2, 3), true);
        holds("5: by 1", desk, 9, "01010011");
        for (int none : NO_REGISTERS) {
            checks.due("5: into " + none, desk.choose(none, 1, 2, 3), false);
            checks.due("5: a " + none, desk.choose(9, none, 1, 1), false);
            checks.due("5: b " + none, desk.choose(9, 1, none, 1), false);
            checks.due("5: c " + none, desk.choose(9, 1, 1, none), false);
        }
        holds("5: after wrong calls", desk, 9, "01010011");
        desk.choose(1, 1, 2, 3);
        holds("5: into a", desk, 1, "01010011");
        desk.variable(1, 1);
        desk.choose(2, 1, 2, 3);
        holds("5: into b", desk, 2, "01010011");
        desk.variable(2, 2);
        desk.choose(3, 1, 2, 3);
        holds("5: into c", desk, 3, "01010011");
    }

    private void promise6Fix() {
        ForkDesk desk = withVariables(3);
        desk.choose(9, 1, 2, 3);
        String[][] due = {{"01010101", "00110011"}, {"01010000", "01011111"}, {"00000011", "11110011"}};
        for (int v = 1; v <= 3; v++) {
            for (int value = 0; value <= 1; value++) {
                checks.due("6: variable " + v + " to " + value, desk.fix(10, 9, v, value), true);
                holds("6: variable " + v + " to " + value, desk, 10, due[v - 1][value]);
            }
        }
        for (int none : NO_REGISTERS) {
            checks.due("6: into " + none, desk.fix(none, 9, 1, 1), false);
            checks.due("6: a " + none, desk.fix(10, none, 1, 1), false);
            checks.due("6: value " + none, desk.fix(10, 9, 1, none), false);
            checks.due("6: variable " + none, desk.fix(10, 9, none, 1), false);
        }
        checks.due("6: variable 0", desk.fix(10, 9, 0, 1), false);
        checks.due("6: variable 4", desk.fix(10, 9, 4, 1), false);
        checks.due("6: value 2", desk.fix(10, 9, 1, 2), false);
        holds("6: after wrong calls", desk, 10, "11110011");
        desk.fix(9, 9, 2, 1);
        holds("6: in place", desk, 9, "01011111");
        ForkDesk wide = withVariables(12);
        for (int v = 1; v <= 12; v++) {
            wide.fix(v, v, v, 1);
            checks.due("6: variable " + v + " of 12 fixed to 1", wide.ones(v), 4096);
            wide.fix(13, v % 12 + 1, v, 0);
            checks.due("6: another than " + v + " of 12", wide.same(13, v % 12 + 1), true);
        }
    }

    private void promise7Exists() {
        ForkDesk desk = withVariables(3);
        desk.combine(9, 0, 1, 2);
        desk.combine(9, 0, 9, 3);
        String[][] due = {
            {"00010001", "01010101", "11111111"}, {null, "00000101", "00001111"}, {null, null, "00000011"}
        };
        for (int from = 1; from <= 3; from++) {
            for (int to = from; to <= 3; to++) {
                checks.due("7: " + from + " to " + to, desk.exists(10, 9, from, to), true);
                holds("7: " + from + " to " + to, desk, 10, due[from - 1][to - 1]);
            }
        }
        int[][] noRanges = {
            {2, 1}, {3, 2}, {0, 2}, {1, 4}, {4, 4}, {0, 0}, {-1, 3}, {Integer.MIN_VALUE, Integer.MAX_VALUE},
            {1, Integer.MAX_VALUE}, {Integer.MIN_VALUE, 1}
        };
        for (int[] range : noRanges) {
            checks.due("7: " + range[0] + " to " + range[1], desk.exists(10, 9, range[0], range[1]), false);
        }
        for (int none : NO_REGISTERS) {
            checks.due("7: into " + none, desk.exists(none, 9, 1, 1), false);
            checks.due("7: a " + none, desk.exists(10, none, 1, 1), false);
        }
        holds("7: after wrong calls", desk, 10, "00000011");
        desk.exists(9, 9, 1, 2);
        holds("7: in place", desk, 9, "01010101");
        desk.exists(10, 0, 1, 3);
        holds("7: of 0", desk, 10, "00000000");
    }

    private void promise8Substitute() {
        ForkDesk desk = withVariables(3);
        desk.choose(9, 1, 2, 3);
        checks.due("8: by the variables", desk.substitute(10, 9, 1), true);
        holds("8: by the variables", desk, 10, "01010011");
        desk.variable(20, 2);
        desk.variable(21, 3);
        desk.variable(22, 1);
        desk.substitute(10, 9, 20);
        holds("8: turned round", desk, 10, "00011101");
        desk.substitute(21, 9, 20);
        holds("8: into one that replaces", desk, 21, "00011101");
        desk.variable(21, 3);
        desk.substitute(9, 9, 20);
        holds("8: into a", desk, 9, "00011101");
        desk.substitute(20, 20, 20);
        holds("8: a is the first that replaces, and k", desk, 20, "01010101");
        desk.constant(23, 1);
        desk.combine(23, 3, 23, 9);
        holds("8: not a", desk, 23, "11100010");
        checks.due("8: from register 0", desk.substitute(23, 23, 0), true);
        holds("8: by 0, variable 1, variable 2", desk, 23, "11111100");
        checks.due("8: the last three registers", desk.substitute(11, 1, 29), true);
        checks.due("8: one too few", desk.substitute(9, 1, 30), false);
        checks.due("8: two too few", desk.substitute(9, 1, 31), false);
        for (int none : NO_REGISTERS) {
            checks.due("8: into " + none, desk.substitute(none, 9, 1), false);
            checks.due("8: a " + none, desk.substitute(9, none, 1), false);
            checks.due("8: first " + none, desk.substitute(9, 1, none), false);
        }
        checks.due("8: first that wraps round", desk.substitute(9, 1, Integer.MAX_VALUE - 1), false);
        holds("8: after wrong calls", desk, 9, "00011101");
        ForkDesk wide = new ForkDesk(12);
        checks.due("8: the last twelve", wide.substitute(0, 0, 20), true);
        checks.due("8: the last eleven", wide.substitute(0, 0, 21), false);
    }

    private void promise9Nearest() {
        ForkDesk desk = withVariables(3);
        desk.combine(8, 2, 1, 2);
        desk.combine(8, 2, 8, 3);
        desk.combine(9, 0, 1, 2);
        holds("9: f", desk, 8, "01101001");
        holds("9: c", desk, 9, "00000011");
        checks.due("9: by 6 and 7", desk.nearest(10, 8, 9), true);
        holds("9: by 6 and 7", desk, 10, "01010101");
        desk.combine(11, 2, 1, 3);
        holds("9: c", desk, 11, "01011010");
        desk.nearest(10, 8, 11);
        holds("9: by 1, 3, 4, 6", desk, 10, "11001100");
        desk.nearest(8, 8, 11);
        holds("9: into a", desk, 8, "11001100");
        desk.nearest(9, 3, 9);
        holds("9: into c", desk, 9, "01010101");
        desk.nearest(10, 8, 0);
        holds("9: by 0", desk, 10, "00000000");
        desk.constant(12, 1);
        desk.nearest(10, 8, 12);
        holds("9: by 1", desk, 10, "11001100");
        for (int none : NO_REGISTERS) {
            checks.due("9: into " + none, desk.nearest(none, 3, 3), false);
            checks.due("9: a " + none, desk.nearest(10, none, 3), false);
            checks.due("9: c " + none, desk.nearest(10, 3, none), false);
        }
        holds("9: after wrong calls", desk, 10, "11001100");
        ForkDesk single = withVariables(1);
        single.nearest(2, 1, 1);
        holds("9: of the only variable by itself", single, 2, "11");
        ForkDesk wide = withVariables(12);
        wide.constant(0, 1);
        for (int v = 1; v <= 12; v++) {
            wide.combine(0, 0, 0, v);
        }
        wide.nearest(13, 12, 0);
        checks.due("9: ones by the last point alone", wide.ones(13), 4096);
    }

    private void promise10Image() {
        ForkDesk desk = withVariables(3);
        desk.combine(20, 0, 1, 2);
        desk.combine(21, 1, 1, 2);
        desk.constant(22, 1);
        desk.constant(30, 1);
        checks.due("10: and, or, 1", desk.image(9, 20, 3, 30), true);
        holds("10: and, or, 1", desk, 9, "01010001");
        desk.image(9, 20, 2, 30);
        holds("10: and, or", desk, 9, "11110011");
        desk.image(9, 20, 1, 30);
        holds("10: and", desk, 9, "11111111");
        desk.image(9, 20, 2, 1);
        holds("10: and, or, where variable 1", desk, 9, "00110011");
        desk.image(9, 21, 1, 1);
        holds("10: or, where variable 1", desk, 9, "00001111");
        desk.image(9, 20, 3, 0);
        holds("10: nowhere", desk, 9, "00000000");
        desk.image(20, 20, 2, 30);
        holds("10: into the first", desk, 20, "11110011");
        desk.image(30, 21, 2, 30);
        holds("10: into c", desk, 30, "00110011");
        desk.constant(9, 1);
        for (int m : new int[] {0, 4, -1, Integer.MIN_VALUE, Integer.MAX_VALUE}) {
            checks.due("10: m " + m, desk.image(9, 1, m, 3), false);
        }
        for (int none : NO_REGISTERS) {
            checks.due("10: into " + none, desk.image(none, 1, 1, 3), false);
            checks.due("10: first " + none, desk.image(9, none, 1, 3), false);
            checks.due("10: c " + none, desk.image(9, 1, 1, none), false);
        }
        checks.due("10: first that wraps round", desk.image(9, Integer.MAX_VALUE - 1, 3, 3), false);
        checks.due("10: three from 30", desk.image(9, 30, 3, 3), false);
        checks.due("10: two from 31", desk.image(9, 31, 2, 3), false);
        holds("10: after wrong calls", desk, 9, "11111111");
        checks.due("10: three from 29", desk.image(9, 29, 3, 3), true);
        checks.due("10: two from 30", desk.image(9, 30, 2, 3), true);
        checks.due("10: one from 31", desk.image(9, 31, 1, 3), true);
        holds("10: of register 31, the constant 0", desk, 9, "11110000");
        desk.constant(9, 1);
        desk.combine(9, 3, 9, 3);
        desk.combine(9, 3, 9, 2);
        desk.combine(9, 3, 9, 1);
        holds("10: c is the first point alone", desk, 9, "10000000");
        checks.due("10: from register 0", desk.image(10, 0, 3, 9), true);
        holds("10: where c is the first point alone", desk, 10, "10000000");
    }

    private void promise11Forks() {
        ForkDesk desk = withVariables(3);
        desk.constant(9, 1);
        checks.due("11: of 0", desk.forks(0), 0);
        checks.due("11: of 1", desk.forks(9), 0);
        for (int v = 1; v <= 3; v++) {
            checks.due("11: of variable " + v, desk.forks(v), 1);
        }
        desk.combine(10, 2, 1, 3);
        checks.due("11: either 1 or 3", desk.forks(10), 3);
        desk.combine(10, 2, 10, 2);
        checks.due("11: odd of three", desk.forks(10), 5);
        desk.combine(10, 0, 1, 2);
        desk.combine(10, 0, 10, 3);
        checks.due("11: all three", desk.forks(10), 3);
        desk.choose(10, 1, 2, 3);
        checks.due("11: choice", desk.forks(10), 3);
        desk.choose(10, 3, 2, 1);
        checks.due("11: choice by the last", desk.forks(10), 5);
        for (int none : NO_REGISTERS) {
            checks.due("11: register " + none, desk.forks(none), -1);
        }
        checks.due("11: pairs far apart", pairs(6).forks(0), 126);
        checks.due("11: last register", desk.forks(31), 0);
        ForkDesk single = new ForkDesk(1);
        single.variable(31, 1);
        checks.due("11: the only variable", single.forks(31), 1);
    }

    /** Or of the pairs (variable v and variable v + count): 2 ^ (count + 1) - 2 forks when they are asked in order. */
    private static ForkDesk pairs(int count) {
        ForkDesk desk = withVariables(2 * count);
        for (int v = 1; v <= count; v++) {
            desk.combine(31, 0, v, v + count);
            desk.combine(0, 1, 0, 31);
        }
        return desk;
    }

    private void promise12Ones() {
        ForkDesk desk = withVariables(3);
        desk.combine(9, 0, 1, 2);
        checks.due("12: and", desk.ones(9), 2);
        desk.combine(9, 1, 9, 3);
        checks.due("12: and, or", desk.ones(9), 5);
        checks.due("12: of 0", desk.ones(0), 0);
        desk.constant(31, 1);
        checks.due("12: of 1 in the last register", desk.ones(31), 8);
        for (int none : NO_REGISTERS) {
            checks.due("12: register " + none, desk.ones(none), -1);
        }
        checks.due("12: pairs far apart", pairs(6).ones(0), 4096 - 729);
    }

    private void promise13Least() {
        ForkDesk desk = withVariables(3);
        desk.constant(9, 1);
        checks.due("13: of 1", desk.least(9), 0);
        checks.due("13: of 0", desk.least(0), -1);
        checks.due("13: of variable 1", desk.least(1), 4);
        desk.combine(9, 0, 1, 2);
        checks.due("13: and", desk.least(9), 6);
        desk.combine(9, 0, 9, 3);
        checks.due("13: the last point", desk.least(9), 7);
        for (int none : NO_REGISTERS) {
            checks.due("13: register " + none, desk.least(none), -1);
        }
        ForkDesk wide = withVariables(12);
        wide.constant(0, 1);
        for (int v = 1; v <= 12; v++) {
            wide.combine(0, 0, 0, v);
            checks.due("13: the first " + v + " of 12", wide.least(0), 4096 - (1 << (12 - v)));
        }
        checks.due("13: pairs far apart", pairs(6).least(0), 65);
    }

    private void promise14At() {
        ForkDesk desk = withVariables(3);
        checks.due("14: variable 1 at 3", desk.at(1, 3), 0);
        checks.due("14: variable 1 at 4", desk.at(1, 4), 1);
        checks.due("14: at the first point", desk.at(3, 0), 0);
        checks.due("14: at the last point", desk.at(3, 7), 1);
        for (int point : new int[] {-1, 8, 64, Integer.MIN_VALUE, Integer.MAX_VALUE}) {
            checks.due("14: at " + point, desk.at(1, point), -1);
        }
        for (int none : NO_REGISTERS) {
            checks.due("14: register " + none, desk.at(none, 0), -1);
        }
        ForkDesk wide = withVariables(12);
        checks.due("14: variable 1 at 2047", wide.at(1, 2047), 0);
        checks.due("14: variable 1 at 2048", wide.at(1, 2048), 1);
        checks.due("14: variable 6 at 64", wide.at(6, 64), 1);
        checks.due("14: variable 7 at 63", wide.at(7, 63), 1);
        checks.due("14: variable 12 at 4095", wide.at(12, 4095), 1);
        checks.due("14: variable 12 at 4096", wide.at(12, 4096), -1);
    }

    private void promise15Same() {
        ForkDesk desk = withVariables(3);
        desk.variable(31, 2);
        checks.due("15: alike", desk.same(2, 31), true);
        checks.due("15: unlike", desk.same(1, 2), false);
        checks.due("15: with itself", desk.same(1, 1), true);
        checks.due("15: two of 0", desk.same(0, 30), true);
        for (int none : NO_REGISTERS) {
            checks.due("15: a " + none, desk.same(none, 0), false);
            checks.due("15: b " + none, desk.same(0, none), false);
            checks.due("15: both " + none, desk.same(none, none), false);
        }
        ForkDesk wide = withVariables(12);
        wide.constant(0, 1);
        for (int v = 1; v <= 12; v++) {
            wide.combine(0, 0, 0, v);
        }
        checks.due("15: unlike at the last point alone", wide.same(0, 31), false);
    }

    /** A new object whose register v holds variable v. */
    private static ForkDesk withVariables(int variables) {
        ForkDesk desk = new ForkDesk(variables);
        for (int v = 1; v <= variables; v++) {
            desk.variable(v, v);
        }
        return desk;
    }

    private void holds(String what, ForkDesk desk, int k, String values) {
        StringBuilder text = new StringBuilder();
        for (int point = 0; point < values.length(); point++) {
            text.append(desk.at(k, point));
        }
        checks.due(what, text.toString(), values);
    }
}
