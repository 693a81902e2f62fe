import java.util.Random;

/** Runs of at most 512 calls of all kinds, every answer compared with PlainDesk's. */
public final class RunsTest {
    private static final int CALLS = 512;
    private static final int[] FAR = {-1, 0, 32, 33, Integer.MIN_VALUE, Integer.MAX_VALUE, Integer.MAX_VALUE - 10};

    private final Checks checks;
    private final Random random;
    private final ForkDesk desk;
    private final PlainDesk plain;
    private final String title;
    /** How many registers the run works with: few make calls that read what they write, many make variety. */
    private final int used;
    private int calls = 0;

    private RunsTest(Checks checks, int variables, long seed) {
        this.checks = checks;
        random = new Random(seed);
        desk = new ForkDesk(variables);
        plain = new PlainDesk(variables);
        title = "ForkDesk(" + variables + "), seed " + seed + ", call ";
        used = random.nextBoolean() ? 32 : Math.min(32, plain.n + 3);
    }

    public static void main(String[] args) {
        Checks checks = new Checks();
        for (int variables = -1; variables <= 14; variables++) {
            int runs = variables <= 8 ? 120 : 4;
            for (int seed = 0; seed < runs && !checks.hasWrong(); seed++) {
                new RunsTest(checks, variables, seed).run();
            }
        }
        checks.end();
    }

    private void run() {
        for (int k = 0; k < used; k++) {
            int v = 1 + k % plain.n;
            due("variable(" + k + ", " + v + ")", desk.variable(k, v), plain.variable(k, v));
        }
        while (calls < CALLS && !checks.hasWrong()) {
            int k = register();
            change(k);
            look(k);
        }
    }

    private void change(int k) {
        int a = register();
        int b = register();
        int c = register();
        int v = variable();
        switch (random.nextInt(12)) {
            case 0 -> {
                int value = value();
                due("constant " + k + " " + value, desk.constant(k, value), plain.constant(k, value));
            }
            case 1 -> due("variable " + k + " " + v, desk.variable(k, v), plain.variable(k, v));
            case 2, 3, 4 -> {
                int op = random.nextInt(20) == 0 ? far() : random.nextInt(4);
                due("combine " + k + " " + op + " " + a + " " + b, desk.combine(k, op, a, b), plain.combine(k, op, a, b));
            }
            case 5, 6 -> due("choose " + k + " " + a + " " + b + " " + c, desk.choose(k, a, b, c), plain.choose(k, a, b, c));
            case 7 -> {
                int value = value();
                due("fix " + k + " " + a + " " + v + " " + value, desk.fix(k, a, v, value), plain.fix(k, a, v, value));
            }
            case 8 -> {
                int to = random.nextInt(4) == 0 ? variable() : v;
                due("exists " + k + " " + a + " " + v + " " + to, desk.exists(k, a, v, to), plain.exists(k, a, v, to));
            }
            case 9 -> {
                int first = first(plain.n);
                due("substitute " + k + " " + a + " " + first, desk.substitute(k, a, first), plain.substitute(k, a, first));
            }
            case 10 -> due("nearest " + k + " " + a + " " + c, desk.nearest(k, a, c), plain.nearest(k, a, c));
            default -> {
                int first = first(v);
                due("image " + k + " " + first + " " + v + " " + c, desk.image(k, first, v, c), plain.image(k, first, v, c));
            }
        }
    }

    private void look(int k) {
        int b = register();
        due("forks " + k, desk.forks(k), plain.forks(k));
        due("ones " + k, desk.ones(k), plain.ones(k));
        due("least " + k, desk.least(k), plain.least(k));
        due("same " + k + " " + b, desk.same(k, b), plain.same(k, b));
        for (int i = 0; i < 4; i++) {
            int point = random.nextInt(20) == 0 ? far() : random.nextInt(plain.points + 1);
            due("at " + k + " " + point, desk.at(k, point), plain.at(k, point));
        }
    }

    private int register() {
        return random.nextInt(60) == 0 ? far() : random.nextInt(used);
    }

    private int variable() {
        return random.nextInt(20) == 0 ? far() : 1 + random.nextInt(plain.n + (random.nextInt(10) == 0 ? 1 : 0));
    }

    private int value() {
        return random.nextInt(10) == 0 ? far() : random.nextInt(2);
    }

    private int first(int count) {
        boolean plainCount = count >= 1 && count <= plain.n;
        return random.nextInt(10) == 0 || !plainCount ? register() : random.nextInt(Math.max(1, used - count + 2));
    }

    private int far() {
        return random.nextInt(3) == 0 ? plain.n + 1 : FAR[random.nextInt(FAR.length)];
    }

    private void due(String call, boolean got, boolean want) {
        due(call, got ? 1 : 0, want ? 1 : 0);
    }

    private void due(String call, int got, int want) {
        calls++;
        if (calls <= CALLS) {
            checks.due(title + calls + ": " + call, got, want);
        }
    }
}
