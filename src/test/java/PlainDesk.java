import java.util.HashSet;
import java.util.Set;
import java.util.function.IntPredicate;

/** The document word by word, point by point, however slow: what ForkDesk is compared with. */
final class PlainDesk {
    private static final int NONE = -1;
    private static final int REGISTERS = 32;

    final int n;
    final int points;
    private final boolean[][] registers;

    PlainDesk(int variables) {
        n = variables < 1 ? 1 : variables > 12 ? 12 : variables;
        points = 1 << n;
        registers = new boolean[REGISTERS][points];
    }

    boolean constant(int k, int value) {
        return isBit(value) && become(k, p -> value == 1);
    }

    boolean variable(int k, int v) {
        return isVariable(v) && become(k, p -> valueOf(v, p));
    }

    boolean combine(int k, int op, int a, int b) {
        if (op < 0 || op > 3 || !isRegister(a) || !isRegister(b)) {
            return false;
        }
        boolean[] f = registers[a];
        boolean[] g = registers[b];
        return become(k, p -> switch (op) {
            case 0 -> f[p] && g[p];
            case 1 -> f[p] || g[p];
            case 2 -> f[p] != g[p];
            default -> f[p] && !g[p];
        });
    }

    boolean choose(int k, int a, int b, int c) {
        if (!isRegister(a) || !isRegister(b) || !isRegister(c)) {
            return false;
        }
        return become(k, p -> registers[a][p] ? registers[b][p] : registers[c][p]);
    }

    boolean fix(int k, int a, int v, int value) {
        if (!isRegister(a) || !isVariable(v) || !isBit(value)) {
            return false;
        }
        return become(k, p -> registers[a][with(p, v, value == 1)]);
    }

    boolean exists(int k, int a, int from, int to) {
        if (!isRegister(a) || !isVariable(from) || !isVariable(to) || from > to) {
            return false;
        }
        boolean[] found = registers[a].clone();
        for (int v = from; v <= to; v++) {
            boolean[] last = found.clone();
            for (int p = 0; p < points; p++) {
                found[p] = last[with(p, v, false)] || last[with(p, v, true)];
            }
        }
        return become(k, p -> found[p]);
    }

    boolean substitute(int k, int a, int first) {
        if (!isRegister(a) || !areRegisters(first, n)) {
            return false;
        }
        return become(k, p -> registers[a][tuple(first, n, p)]);
    }

    boolean nearest(int k, int a, int c) {
        if (!isRegister(a) || !isRegister(c)) {
            return false;
        }
        return become(k, p -> {
            int best = NONE;
            for (int q = 0; q < points; q++) {
                if (registers[c][q] && (best == NONE || (p ^ q) < (p ^ best))) {
                    best = q;
                }
            }
            return best != NONE && registers[a][best];
        });
    }

    boolean image(int k, int first, int m, int c) {
        if (!isVariable(m) || !areRegisters(first, m) || !isRegister(c)) {
            return false;
        }
        Set<Integer> tuples = new HashSet<>();
        for (int p = 0; p < points; p++) {
            if (registers[c][p]) {
                tuples.add(tuple(first, m, p));
            }
        }
        return become(k, p -> tuples.contains(p >> (n - m)));
    }

    int forks(int k) {
        if (!isRegister(k)) {
            return NONE;
        }
        String values = values(k);
        int sum = 0;
        for (int v = 1; v <= n; v++) {
            int size = points >> (v - 1);
            Set<String> different = new HashSet<>();
            for (int start = 0; start < points; start += size) {
                String block = values.substring(start, start + size);
                if (!block.substring(0, size / 2).equals(block.substring(size / 2))) {
                    different.add(block);
                }
            }
            sum += different.size();
        }
        return sum;
    }

    int ones(int k) {
        return isRegister(k) ? (int) values(k).chars().filter(c -> c == '1').count() : NONE;
    }

    int least(int k) {
        return isRegister(k) ? values(k).indexOf('1') : NONE;
    }

    int at(int k, int point) {
        return isRegister(k) && point >= 0 && point < points ? (registers[k][point] ? 1 : 0) : NONE;
    }

    boolean same(int a, int b) {
        return isRegister(a) && isRegister(b) && values(a).equals(values(b));
    }

    String values(int k) {
        StringBuilder text = new StringBuilder();
        for (boolean value : registers[k]) {
            text.append(value ? '1' : '0');
        }
        return text.toString();
    }

    private boolean become(int k, IntPredicate value) {
        if (!isRegister(k)) {
            return false;
        }
        boolean[] made = new boolean[points];
        for (int p = 0; p < points; p++) {
            made[p] = value.test(p);
        }
        registers[k] = made;
        return true;
    }

    private boolean valueOf(int v, int point) {
        return (point >> (n - v)) % 2 == 1;
    }

    private int with(int point, int v, boolean value) {
        int weight = 1 << (n - v);
        return valueOf(v, point) == value ? point : value ? point + weight : point - weight;
    }

    private int tuple(int first, int count, int point) {
        int number = 0;
        for (int i = 0; i < count; i++) {
            number = 2 * number + (registers[first + i][point] ? 1 : 0);
        }
        return number;
    }

    private static boolean isRegister(long k) {
        return k >= 0 && k < REGISTERS;
    }

    private static boolean areRegisters(long first, int count) {
        return isRegister(first) && isRegister(first + count - 1);
    }

    private boolean isVariable(int v) {
        return v >= 1 && v <= n;
    }

    private static boolean isBit(int value) {
        return value == 0 || value == 1;
    }
}
