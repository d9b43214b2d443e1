/** The sentences of the section "Terms", but for those of the best match and of the plan. */
final class TermBoundaries {
    private static final int NONE = PartShelves.NONE;

    private final Sentences told;
    private final Due due;

    TermBoundaries(Sentences told, Due due) {
        this.told = told;
        this.due = due;
    }

    void test() {
        told.in("Terms");
        ranges();
        days();
        parts();
        prices();
        asks();
        told.test("TOOLS are 0 .. 3", () -> {
            PartShelves x = new PartShelves();
            for (int tool = 0; tool <= 3; tool++) {
                due.is("lend(" + tool + ", 0, 0)", x.lend(tool, 0, 0), true);
            }
            for (int tool : Scenes.outside(0, 3)) {
                due.is("lend(" + tool + ", 0, 0)", x.lend(tool, 0, 0), false);
                due.is("back(" + tool + ")", x.back(tool), NONE);
            }
            for (int tool = 0; tool <= 3; tool++) {
                due.is("back(" + tool + ")", x.back(tool), 0);
            }
        });
        told.test("each may be LENT to a person up to a day", () -> {
            PartShelves x = new PartShelves();
            for (int tool = 0; tool <= 3; tool++) {
                due.is("lend", x.lend(tool, 9 - tool, tool), true);
            }
            x.today(2);
            due.is("late(0)", x.late(0), 0);
            due.is("late(1)", x.late(1), 1);
            due.is("late(2), lent up to today", x.late(2), NONE);
            for (int tool = 0; tool <= 3; tool++) {
                due.is("back", x.back(tool), 9 - tool);
            }
        });
        told.test("What match() and plan() found stays until the next one.", this::foundStays);
    }

    private void ranges() {
        told.test("KINDS and PRODUCTS are 0 .. 5", () -> {
            for (int i = 0; i <= 5; i++) {
                kindAndProduct(i, true);
            }
            for (int i : Scenes.outside(0, 5)) {
                kindAndProduct(i, false);
            }
        });
        told.test("PERSONS 0 .. 9", () -> {
            for (int person = 0; person <= 9; person++) {
                PartShelves x = Scenes.onePair();
                x.match();
                due.is("serve(0, " + person + ")", x.serve(0, person), 0);
                due.is("lend(0, " + person + ", 0)", x.lend(0, person, 0), true);
                due.is("back(0)", x.back(0), person);
                x.recall(0, 50, 50);
                due.is("recalled(0)", x.recalled(0), person);
            }
            PartShelves x = Scenes.onePair();
            x.match();
            for (int person : Scenes.outside(0, 9)) {
                due.is("serve(0, " + person + ")", x.serve(0, person), NONE);
                due.is("lend(0, " + person + ", 0)", x.lend(0, person, 0), false);
            }
        });
        told.test("DAYS 0 .. 100000", () -> {
            for (int day : new int[] {0, 1, 65536, 99999, 100000}) {
                PartShelves x = Scenes.onePair();
                due.is("hold(0, 0, " + day + ")", x.hold(0, 0, day), true);
                due.is("lend(0, 0, " + day + ")", x.lend(0, 0, day), true);
                due.is("today(" + day + ")", x.today(day), true);
                due.is("state(0)", x.state(0), Scenes.HELD);
            }
            PartShelves x = Scenes.onePair();
            for (int day : Scenes.outside(0, 100000)) {
                due.is("hold(0, 0, " + day + ")", x.hold(0, 0, day), false);
                due.is("lend(0, 0, " + day + ")", x.lend(0, 0, day), false);
                due.is("today(" + day + ")", x.today(day), false);
            }
        });
    }

    private void kindAndProduct(int i, boolean is) {
        PartShelves x = new PartShelves();
        x.job();
        due.is("fits(" + i + ", 0, true)", x.fits(i, 0, true), is);
        due.is("fits(0, " + i + ", true)", x.fits(0, i, true), is);
        due.is("part(" + i + ", 0, 0)", x.part(i, 0, 0), is ? 0 : NONE);
        due.is("ask(" + i + ", 0, 0)", x.ask(i, 0, 0), is ? 0 : NONE);
        due.is("needs(0, " + i + ", 1)", x.needs(0, i, 1), is);
        due.is("warranty(" + i + ", 1)", x.warranty(i, 1), is);
        due.is("recall(" + i + ", 0, 0)", x.recall(i, 0, 0), is ? 0 : NONE);
    }

    private void days() {
        told.test("TODAY is a day that never falls", () -> {
            PartShelves x = Scenes.onePair();
            x.today(7);
            for (int day = 0; day < 7; day++) {
                due.is("today(" + day + ")", x.today(day), false);
            }
            due.is("hold(0, 0, 6): today is 7 still", x.hold(0, 0, 6), false);
            due.is("hold(0, 0, 7)", x.hold(0, 0, 7), true);
        });
        told.test("0 at first", () -> {
            PartShelves x = Scenes.onePair();
            due.is("hold(0, 0, 0)", x.hold(0, 0, 0), true);
            due.is("state(0)", x.state(0), Scenes.HELD);
            due.is("lend(0, 0, 0)", x.lend(0, 0, 0), true);
            due.is("late(0)", x.late(0), NONE);
            x.match();
            x.serve(0, 1);
            x.warranty(0, 1000);
            x.today(1000);
            due.is("returned(0) of what was sold on day 0", x.returned(0), true);
        });
    }

    private void parts() {
        told.test("PARTS are numbered from 0 on, 8 at most", () -> {
            PartShelves x = new PartShelves();
            for (int number = 0; number < 8; number++) {
                due.is("state of the part to come", x.state(number), NONE);
                due.is("part", x.part(5 - number % 6, number, number), number);
                due.is("state", x.state(number), Scenes.FREE);
            }
            due.is("part 9", x.part(0, 0, 0), NONE);
            due.is("state(8)", x.state(8), NONE);
        });
        told.test("each of a kind, of an age 0 .. 1000, with a SERIAL", () -> {
            PartShelves x = new PartShelves();
            due.is("part(0, 0, 0)", x.part(0, 0, 0), 0);
            due.is("part(0, 1000, 0)", x.part(0, 1000, 0), 1);
            for (int age : Scenes.outside(0, 1000)) {
                due.is("part(0, " + age + ", 0)", x.part(0, age, 0), NONE);
            }
        });
        told.test("a part is 0 FREE, 1 HELD for an ask up to a day, 2 SOLD to a person on a day, or 3 RECALLED", () -> {
            PartShelves x = Scenes.oneOfEachState();
            for (int part = 0; part < 4; part++) {
                due.is("state(" + part + ")", x.state(part), part);
            }
            due.is("state(4)", x.state(4), NONE);
        });
        told.test("A held one whose day is before today is free again.", this::heldOneIsFreeAgain);
    }

    private void heldOneIsFreeAgain() {
        PartShelves x = Scenes.alike(1, 2, 100);
        x.job();
        x.needs(0, 0, 1);
        x.hold(0, 1, 5);
        x.today(5);
        due.is("state(0) on its day", x.state(0), Scenes.HELD);
        due.is("hold(0, 0, 9) on its day", x.hold(0, 0, 9), false);
        due.is("plan() on its day", x.plan(), 0);
        x.match();
        due.is("of(0) on its day", x.of(0), NONE);
        due.is("of(1) on its day", x.of(1), 0);
        x.today(6);
        due.is("state(0) a day behind", x.state(0), Scenes.FREE);
        due.is("plan() a day behind", x.plan(), 1);
        x.match();
        due.is("of(0) a day behind", x.of(0), 0);
        due.is("of(1) a day behind", x.of(1), NONE);
        due.is("hold(0, 0, 9) a day behind", x.hold(0, 0, 9), true);

        PartShelves last = Scenes.onePair();
        last.hold(0, 0, 100000);
        last.today(100000);
        due.is("state(0) on the last of all days", last.state(0), Scenes.HELD);
    }

    private void prices() {
        told.test("PRICE ROWS rise", () -> {
            PartShelves x = new PartShelves();
            x.row(500, 10);
            due.is("row(500, 20), the same age", x.row(500, 20), false);
            due.is("row(499, 20), a lesser age", x.row(499, 20), false);
            due.is("row(0, 20)", x.row(0, 20), false);
            due.is("row(501, 5), lesser cents", x.row(501, 5), true);
            due.is("row(502, 5), the same cents", x.row(502, 5), true);
        });
        told.test("from some age on a part costs some cents", () -> {
            PartShelves x = new PartShelves();
            x.part(0, 499, 0);
            x.part(0, 500, 0);
            x.part(0, 501, 0);
            x.part(0, 1000, 0);
            x.row(500, 100000);
            due.is("price(0), younger by one", x.price(0), 0);
            due.is("price(1), of that age", x.price(1), 100000);
            due.is("price(2), older by one", x.price(2), 100000);
            due.is("price(3), of the greatest age", x.price(3), 100000);
        });
        told.test("a part's PRICE is that of the last row that is not above its age", () -> {
            PartShelves x = new PartShelves();
            int[] ages = {0, 9, 10, 19, 20, 999, 1000};
            for (int age : ages) {
                x.part(0, age, 0);
            }
            x.row(0, 70);
            x.row(10, 90);
            x.row(20, 20);
            x.row(1000, 80);
            long[] prices = {70, 70, 90, 90, 20, 20, 80};
            for (int p = 0; p < ages.length; p++) {
                due.is("price at age " + ages[p], x.price(p), prices[p]);
            }
        });
        told.test("0 when there is none", () -> {
            PartShelves x = new PartShelves();
            x.part(0, 0, 0);
            x.part(0, 1000, 0);
            due.is("price(0) without rows", x.price(0), 0);
            due.is("price(1) without rows", x.price(1), 0);
            x.row(1, 60);
            due.is("price(0) when all rows are above", x.price(0), 0);
        });
    }

    private void asks() {
        told.test("ASKS are numbered from 0 on, 8 at most", () -> {
            PartShelves x = new PartShelves();
            x.match();
            for (int number = 0; number < 8; number++) {
                due.is("gain of the ask to come", x.gain(1, number), NONE);
                due.is("ask", x.ask(5 - number % 6, number, 8 - number), number);
                x.match();
                due.is("gain", x.gain(1, number), 0);
            }
            due.is("ask 9", x.ask(0, 0, 0), NONE);
            x.match();
            due.is("gain(1, 8)", x.gain(1, 8), NONE);
        });
        told.test("OPEN until they are served", () -> {
            PartShelves x = Scenes.alike(2, 1, 100);
            x.match();
            due.is("serve(0, 10) is refused", x.serve(0, 10), NONE);
            due.is("hold(1, 0, 0): it is open still", x.hold(1, 0, 0), true);
            due.is("serve(0, 9)", x.serve(0, 9), 0);
            x.today(1);
            due.is("hold(1, 0, 1): it is open no more", x.hold(1, 0, 1), false);
            due.is("match()", x.match(), 0);

            PartShelves back = Scenes.oneSale();
            back.returned(0);
            due.is("match() when the part came back", back.match(), 0);
            due.is("hold(0, 0, 10) when the part came back", back.hold(0, 0, 10), false);
        });
    }

    private void foundStays() {
        PartShelves x = Scenes.alike(2, 2, 100);
        x.job();
        x.needs(0, 0, 2);
        x.row(0, 9);
        x.match();
        x.plan();
        x.fits(0, 0, false);
        x.row(2, 90);
        x.ask(0, 1000, 0);
        x.part(1, 5, 0);
        x.job();
        x.needs(0, 5, 3);
        x.hold(0, 1, 3);
        x.recall(0, 1, 1);
        x.today(9);
        due.is("worth()", x.worth(), 182);
        due.is("of(0)", x.of(0), 0);
        due.is("of(1)", x.of(1), 1);
        due.is("of(2), which came later", x.of(2), NONE);
        due.is("gain(0, 1)", x.gain(0, 1), 91);
        due.is("cost()", x.cost(), 18);
        due.is("does(0)", x.does(0), true);
        due.is("does(1), which came later", x.does(1), false);
        due.is("the next match()", x.match(), 0);
        due.is("worth()", x.worth(), 0);
        due.is("of(0)", x.of(0), NONE);
        due.is("does(0): the plan stays", x.does(0), true);
        due.is("the next plan()", x.plan(), 1);
        due.is("does(0)", x.does(0), false);
        due.is("does(1)", x.does(1), true);
    }
}
