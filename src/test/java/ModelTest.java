import java.util.Random;

/** Many runs of mixed calls, the same in every session: each answer must be the model's. */
public final class ModelTest {
    private static final int RUNS = 3000;
    private static final int CALLS = 400;
    private static final int DENSE_RUNS = 60;
    private static final int[] ODD_INTS = {-1, 8, 100001, 1001, Integer.MIN_VALUE, Integer.MAX_VALUE};
    private static final long[] ODD_LONGS = {-1, 1000000001L, 1L << 32, Long.MIN_VALUE, Long.MAX_VALUE};
    private static final Due due = new Due("ModelTest");

    private final Random random;
    private final PartShelves x = new PartShelves();
    private final Model m = new Model();
    /** Few kinds and cents make many pairs and many equal worths. */
    private final int kinds;
    private final long cents;
    private final int days;

    private ModelTest(int run) {
        random = new Random(run);
        kinds = 1 + random.nextInt(6);
        cents = new long[] {3, 20, 100000}[random.nextInt(3)];
        days = new int[] {1, 3, 400}[random.nextInt(3)];
    }

    public static void main(String[] args) {
        for (int run = 0; run < RUNS && due.wrong() < 20; run++) {
            due.at("run " + run);
            ModelTest test = new ModelTest(run);
            for (int call = 0; call < CALLS; call++) {
                test.oneCall();
            }
            test.lookAtAll();
        }
        for (int run = 0; run < DENSE_RUNS && due.wrong() < 20; run++) {
            due.at("dense run " + run);
            new ModelTest(run).denseMatch(run % 5 == 0 ? 8 : 7);
        }
        due.end();
    }

    /** Most parts and asks are pairs: mixed calls seldom come to that, or are too dear for the model then. */
    private void denseMatch(int size) {
        for (int i = 0; i < 6; i++) {
            row();
        }
        for (int kind = 0; kind < 6; kind++) {
            for (int product = 0; product < 6; product++) {
                boolean is = random.nextInt(8) != 0;
                due.is("fits(" + kind + ", " + product + ", " + is + ")", x.fits(kind, product, is),
                        m.fits(kind, product, is));
            }
        }
        while (m.parts.size() < size) {
            part();
        }
        while (m.asks.size() < size) {
            ask();
        }
        match();
    }

    /** Below a bound, or now and then something else. */
    private int some(int bound) {
        return random.nextInt(60) == 0 ? ODD_INTS[random.nextInt(ODD_INTS.length)] : random.nextInt(bound);
    }

    private long someLong(long bound) {
        return random.nextInt(60) == 0 ? ODD_LONGS[random.nextInt(ODD_LONGS.length)] : random.nextLong(bound);
    }

    private int someDay() {
        return m.now - 1 + some(days + 2);
    }

    private void oneCall() {
        switch (random.nextInt(26)) {
            case 0 -> { if (random.nextInt(3) == 0) { int d = someDay(); due.is("today(" + d + ")", x.today(d), m.today(d)); } }
            case 1 -> { if (random.nextInt(8) == 0) row(); }
            case 2, 3 -> fits();
            case 4, 5 -> { if (random.nextInt(4) == 0) part(); }
            case 6 -> { int p = some(9); due.is("price(" + p + ")", x.price(p), m.price(p)); }
            case 7 -> { int p = some(9); due.is("state(" + p + ")", x.state(p), m.state(p)); }
            case 8, 9 -> { if (random.nextInt(4) == 0) ask(); }
            case 10 -> hold();
            case 11 -> { if (isCheapToMatch()) match(); }
            case 12 -> { int a = some(9); due.is("of(" + a + ")", x.of(a), m.of(a)); }
            case 13 -> due.is("worth()", x.worth(), m.worth());
            case 14 -> { int s = some(3), k = some(9); due.is("gain(" + s + ", " + k + ")", x.gain(s, k), m.gain(s, k)); }
            case 15 -> { if (random.nextInt(3) == 0) serve(); }
            case 16 -> { if (random.nextInt(4) == 0) due.is("job()", x.job(), m.job()); }
            case 17 -> needs();
            case 18 -> plan();
            case 19 -> { int j = some(7); due.is("does(" + j + ")", x.does(j), m.does(j)); }
            case 20 -> { int k = some(7), d = some(days + 2); due.is("warranty(" + k + ", " + d + ")", x.warranty(k, d), m.warranty(k, d)); }
            case 21 -> { int p = some(9); due.is("returned(" + p + ")", x.returned(p), m.returned(p)); }
            case 22 -> { if (random.nextInt(5) == 0) recall(); }
            case 23 -> { int k = some(4); due.is("recalled(" + k + ")", x.recalled(k), m.recalled(k)); }
            case 24 -> { int t = some(5), p = some(11), d = someDay(); due.is("lend(" + t + ", " + p + ", " + d + ")", x.lend(t, p, d), m.lend(t, p, d)); }
            default -> {
                int t = some(5);
                if (random.nextInt(3) == 0) due.is("back(" + t + ")", x.back(t), m.back(t));
                due.is("late(" + t + ")", x.late(t), m.late(t));
            }
        }
    }

    private void row() {
        int age = some(12);
        long c = someLong(cents);
        due.is("row(" + age + ", " + c + ")", x.row(age, c), m.row(age, c));
    }

    private void fits() {
        int kind = some(kinds), product = some(kinds);
        boolean is = random.nextInt(3) != 0;
        due.is("fits(" + kind + ", " + product + ", " + is + ")", x.fits(kind, product, is), m.fits(kind, product, is));
    }

    private void part() {
        int kind = some(kinds), age = some(12);
        long serial = someLong(10);
        due.is("part(" + kind + ", " + age + ", " + serial + ")", x.part(kind, age, serial), m.part(kind, age, serial));
    }

    private void ask() {
        int product = some(kinds);
        long c = someLong(2 * cents), minute = someLong(4);
        due.is("ask(" + product + ", " + c + ", " + minute + ")", x.ask(product, c, minute), m.ask(product, c, minute));
    }

    private void hold() {
        int part = some(9), ask = some(9), day = someDay();
        due.is("hold(" + part + ", " + ask + ", " + day + ")", x.hold(part, ask, day), m.hold(part, ask, day));
    }

    /** The model tries all matches: of 8 asks with 8 parts each there are too many for that. */
    private boolean isCheapToMatch() {
        long matches = 1;
        for (int a = 0; a < m.asks.size(); a++) {
            int ways = 1;
            for (int p = 0; p < m.parts.size(); p++) {
                if (m.pair(p, a)) ways++;
            }
            matches *= ways;
        }
        return matches < 100000;
    }

    private void match() {
        due.is("match()", x.match(), m.match());
        due.is("worth()", x.worth(), m.worth());
        for (int k = 0; k < 8; k++) {
            due.is("of(" + k + ")", x.of(k), m.of(k));
            due.is("gain(0, " + k + ")", x.gain(0, k), m.gain(0, k));
            due.is("gain(1, " + k + ")", x.gain(1, k), m.gain(1, k));
        }
    }

    private void serve() {
        int ask = some(9), person = some(11);
        due.is("serve(" + ask + ", " + person + ")", x.serve(ask, person), m.serve(ask, person));
    }

    private void needs() {
        int job = some(7), kind = some(kinds), n = some(5);
        due.is("needs(" + job + ", " + kind + ", " + n + ")", x.needs(job, kind, n), m.needs(job, kind, n));
    }

    private void plan() {
        due.is("plan()", x.plan(), m.plan());
        due.is("cost()", x.cost(), m.cost());
        for (int job = 0; job < 6; job++) {
            due.is("does(" + job + ")", x.does(job), m.does(job));
        }
    }

    private void recall() {
        int kind = some(kinds);
        long from = someLong(10), to = random.nextBoolean() ? from : someLong(10);
        due.is("recall(" + kind + ", " + from + ", " + to + ")", x.recall(kind, from, to), m.recall(kind, from, to));
    }

    private void lookAtAll() {
        due.is("worth()", x.worth(), m.worth());
        due.is("cost()", x.cost(), m.cost());
        for (int k = -1; k < 9; k++) {
            due.is("state(" + k + ")", x.state(k), m.state(k));
            due.is("price(" + k + ")", x.price(k), m.price(k));
            due.is("of(" + k + ")", x.of(k), m.of(k));
            due.is("gain(0, " + k + ")", x.gain(0, k), m.gain(0, k));
            due.is("gain(1, " + k + ")", x.gain(1, k), m.gain(1, k));
            due.is("does(" + k + ")", x.does(k), m.does(k));
            due.is("recalled(" + k + ")", x.recalled(k), m.recalled(k));
            due.is("late(" + k + ")", x.late(k), m.late(k));
        }
    }
}
