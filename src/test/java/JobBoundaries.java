/** The terms of the plan, and the sentences of promises 15 to 19: job, needs, plan, cost, does. */
final class JobBoundaries {
    private static final int NONE = PartShelves.NONE;

    private final Sentences told;
    private final Due due;

    JobBoundaries(Sentences told, Due due) {
        this.told = told;
        this.due = due;
    }

    void test() {
        told.in("Terms");
        jobTerms();
        planTerms();
        job();
        needs();
        plan();
        cost();
        does();
    }

    /** So many jobs, the j-th of which needs as many parts of kind 0 as stand there. */
    private static void addJobs(PartShelves x, int... needs) {
        for (int n : needs) {
            x.needs(x.job(), 0, n);
        }
    }

    /** Parts of kind 0 with these prices, each less than the one before. */
    private static PartShelves priced(long... prices) {
        PartShelves x = new PartShelves();
        for (int p = 0; p < prices.length; p++) {
            x.row(p, prices[p]);
            x.part(0, p, p);
        }
        return x;
    }

    private void doesOnly(PartShelves x, int... jobs) {
        int set = 0;
        for (int job : jobs) {
            set |= 1 << job;
        }
        for (int job = 0; job < 6; job++) {
            due.is("does(" + job + ")", x.does(job), (set >> job & 1) == 1);
        }
    }

    private void jobTerms() {
        told.test("JOBS are numbered from 0 on, 6 at most, each needing some parts of kinds.", () -> {
            PartShelves x = new PartShelves();
            for (int job = 0; job < 6; job++) {
                due.is("needs of the job to come", x.needs(job, 0, 0), false);
                due.is("job()", x.job(), job);
                due.is("needs", x.needs(job, 5, 0), true);
            }
            due.is("job() 7", x.job(), NONE);
            due.is("needs(6, 0, 0)", x.needs(6, 0, 0), false);
        });
        told.test("of each kind there are as many free parts as they need together", () -> {
            for (int parts = 0; parts <= 8; parts++) {
                PartShelves x = Scenes.alike(parts, 0, 0);
                addJobs(x, 3, 3, 1);
                due.is("plan() with " + parts, x.plan(), parts >= 7 ? 3 : parts >= 4 ? 2 : parts >= 1 ? 1 : 0);
            }
            PartShelves kinds = Scenes.oneOfEach();
            kinds.job();
            for (int kind = 0; kind < 6; kind++) {
                kinds.needs(0, kind, 1);
            }
            due.is("plan() with one of each kind", kinds.plan(), 1);
            for (int kind = 0; kind < 6; kind++) {
                kinds.needs(0, kind, 2);
                due.is("plan() with one too few of kind " + kind, kinds.plan(), 0);
                kinds.needs(0, kind, 1);
            }
            PartShelves states = Scenes.oneOfEachState();
            addJobs(states, 1, 1);
            due.is("plan() with one that is free of four", states.plan(), 1);
        });
        told.test("their COST are the prices of these parts, of each kind of the cheapest ones", () -> {
            PartShelves x = priced(90, 70, 40, 10);
            x.part(1, 0, 0);
            addJobs(x, 2, 1);
            x.needs(1, 1, 1);
            due.is("plan()", x.plan(), 2);
            due.is("cost()", x.cost(), 10 + 40 + 70 + 90);
            x.recall(0, 3, 3);
            due.is("plan()", x.plan(), 2);
            due.is("cost() when the cheapest is recalled", x.cost(), 40 + 70 + 90 + 90);
        });
    }

    private void planTerms() {
        told.test("THE PLAN does the most jobs", () -> {
            PartShelves x = priced(90, 70, 40);
            addJobs(x, 3, 1, 2);
            due.is("plan()", x.plan(), 2);
            due.is("cost(): two jobs, though one costs less", x.cost(), 200);
            doesOnly(x, 1, 2);
        });
        told.test("of those it costs least", () -> {
            PartShelves x = priced(90, 70, 40);
            addJobs(x, 3, 2, 1, 3);
            x.needs(2, 5, 1);
            due.is("plan()", x.plan(), 1);
            due.is("cost()", x.cost(), 110);
            doesOnly(x, 1);
        });
        told.test("of those the sum of 2^j for its jobs j is least", () -> {
            PartShelves one = priced(90);
            addJobs(one, 1, 1, 1, 1, 1, 1);
            due.is("plan()", one.plan(), 1);
            doesOnly(one, 0);

            PartShelves two = priced(90, 90);
            addJobs(two, 3, 1, 1, 1, 1, 1);
            due.is("plan()", two.plan(), 2);
            doesOnly(two, 1, 2);

            // There is one part of each kind, so 0 and 3 or 1 and 2 can be done: 2 + 4 is less than 1 + 8.
            PartShelves pairs = Scenes.oneOfEach();
            pairs.row(0, 90);
            int[][] kinds = {{1, 2}, {1, 3}, {2, 4}, {3, 4}};
            for (int[] needed : kinds) {
                int job = pairs.job();
                pairs.needs(job, needed[0], 1);
                pairs.needs(job, needed[1], 1);
            }
            due.is("plan()", pairs.plan(), 2);
            due.is("cost()", pairs.cost(), 4 * 90);
            doesOnly(pairs, 1, 2);
        });
    }

    private void job() {
        told.in("Promise 15: job");
        told.test("One more job.", () -> {
            PartShelves x = new PartShelves();
            for (int jobs = 0; jobs < 6; jobs++) {
                due.is("plan() of " + jobs, x.plan(), jobs);
                x.job();
            }
            due.is("plan() of 6", x.plan(), 6);
        });
        told.test("Answers its number", () -> {
            PartShelves x = new PartShelves();
            for (int job = 0; job < 6; job++) {
                due.is("job()", x.job(), job);
            }
            due.is("job() of another object", new PartShelves().job(), 0);
        });
        told.test("NONE when there are 6", () -> {
            PartShelves x = new PartShelves();
            addJobs(x, 0, 0, 0, 0, 0);
            due.is("the sixth", x.job(), 5);
            due.is("the seventh", x.job(), NONE);
            due.is("the seventh again", x.job(), NONE);
            due.is("plan()", x.plan(), 6);
        });
    }

    private void needs() {
        told.in("Promise 16: needs");
        told.test("A job needs n parts of a kind, 0 .. 3", () -> {
            for (int n = 0; n <= 3; n++) {
                PartShelves x = priced(5, 5, 5);
                x.job();
                due.is("needs(0, 0, " + n + ")", x.needs(0, 0, n), true);
                due.is("plan()", x.plan(), 1);
                due.is("cost()", x.cost(), 5 * n);
            }
            PartShelves x = priced(5, 5, 5, 5);
            x.job();
            for (int n : Scenes.outside(0, 3)) {
                due.is("needs(0, 0, " + n + ")", x.needs(0, 0, n), false);
            }
            x.plan();
            due.is("cost()", x.cost(), 0);
            x.needs(0, 0, 3);
            x.needs(0, 0, 1);
            x.plan();
            due.is("cost() of 1 in place of 3", x.cost(), 5);
            x.needs(0, 0, 0);
            x.plan();
            due.is("cost() of 0 in place of 1", x.cost(), 0);
        });
        told.test("(0 at first)", () -> {
            PartShelves x = new PartShelves();
            for (int jobs = 1; jobs <= 6; jobs++) {
                x.job();
                due.is("plan() without any part", x.plan(), jobs);
                due.is("cost()", x.cost(), 0);
            }
        });
        told.test("Answers true; false when these are not such.", () -> {
            PartShelves x = new PartShelves();
            due.is("needs(0, 0, 1) without a job", x.needs(0, 0, 1), false);
            x.job();
            x.job();
            for (int job : Scenes.outside(0, 1)) {
                due.is("needs(" + job + ", 0, 1)", x.needs(job, 0, 1), false);
            }
            for (int kind : Scenes.outside(0, 5)) {
                due.is("needs(0, " + kind + ", 1)", x.needs(0, kind, 1), false);
            }
            due.is("plan(): no job needs anything", x.plan(), 2);
            due.is("needs(1, 5, 3)", x.needs(1, 5, 3), true);
            due.is("plan()", x.plan(), 1);
        });
    }

    private void plan() {
        told.in("Promise 17: plan");
        told.test("Finds the plan.", () -> {
            PartShelves x = priced(5);
            addJobs(x, 1);
            x.plan();
            due.is("does(0)", x.does(0), true);
            due.is("cost()", x.cost(), 5);
            x.needs(0, 0, 2);
            x.plan();
            due.is("does(0) by the next plan", x.does(0), false);
            due.is("cost() of the next plan", x.cost(), 0);
            due.is("state(0): a plan takes no part", x.state(0), Scenes.FREE);
        });
        told.test("Answers how many jobs it does.", () -> {
            due.is("plan() of no jobs", new PartShelves().plan(), 0);
            PartShelves none = new PartShelves();
            addJobs(none, 1, 1, 1, 1, 1, 1);
            due.is("plan() when none can be done", none.plan(), 0);
            PartShelves all = Scenes.alike(8, 0, 0);
            addJobs(all, 3, 1, 1, 1, 1, 1);
            due.is("plan() when all 6 can be done", all.plan(), 6);
            doesOnly(all, 0, 1, 2, 3, 4, 5);
        });
    }

    private void cost() {
        told.in("Promise 18: cost");
        told.test("The cost of the plan that was found", () -> {
            PartShelves x = Scenes.alike(8, 0, 0);
            x.row(0, 100000);
            x.plan();
            due.is("cost() of no jobs", x.cost(), 0);
            addJobs(x, 3, 3, 2);
            due.is("cost() until the next plan", x.cost(), 0);
            x.plan();
            due.is("cost() at its most", x.cost(), 800000);
            x.row(1, 5);
            x.recall(0, 0, 10);
            due.is("cost() until the next plan", x.cost(), 800000);
        });
        told.test("NONE before one was", () -> {
            due.is("cost() of a new object", new PartShelves().cost(), NONE);
            PartShelves x = Scenes.onePair();
            addJobs(x, 1);
            x.match();
            due.is("cost() behind a match", x.cost(), NONE);
        });
    }

    private void does() {
        told.in("Promise 19: does");
        told.test("Whether the plan that was found does a job.", () -> {
            PartShelves x = new PartShelves();
            addJobs(x, 0, 0, 0, 0, 0);
            due.is("does(0) before a plan", x.does(0), false);
            x.plan();
            x.job();
            for (int job = 0; job < 5; job++) {
                due.is("does(" + job + ")", x.does(job), true);
            }
            due.is("does(5), which came later", x.does(5), false);
            x.plan();
            due.is("does(5)", x.does(5), true);
            for (int job : Scenes.outside(0, 5)) {
                due.is("does(" + job + ")", x.does(job), false);
            }
            for (int job = 0; job < 6; job++) {
                due.is("does(" + (job + 32) + ")", x.does(job + 32), false);
                due.is("does(" + (job - 32) + ")", x.does(job - 32), false);
            }
        });
    }
}
