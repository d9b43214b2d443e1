/** The sentences of promises 1 to 9: a new object, days, price rows, what fits, parts, asks, holds. */
final class ShelfBoundaries {
    private static final int NONE = PartShelves.NONE;

    private final Sentences told;
    private final Due due;

    ShelfBoundaries(Sentences told, Due due) {
        this.told = told;
        this.due = due;
    }

    void test() {
        newObject();
        newObjectHasFoundNothing();
        today();
        row();
        fits();
        part();
        priceAndState();
        ask();
        hold();
    }

    private void newObject() {
        told.in("Promise 1: A new object");
        told.test("No parts", () -> {
            PartShelves x = new PartShelves();
            for (int k = 0; k < 8; k++) {
                due.is("state", x.state(k), NONE);
                due.is("price", x.price(k), NONE);
                due.is("returned", x.returned(k), false);
            }
            due.is("the first part()", x.part(0, 0, 0), 0);
        });
        told.test("no asks", () -> {
            PartShelves x = new PartShelves();
            x.part(0, 0, 0);
            for (int k = 0; k < 8; k++) {
                due.is("hold", x.hold(0, k, 0), false);
            }
            x.match();
            due.is("gain(1, 0)", x.gain(1, 0), NONE);
            due.is("the first ask()", x.ask(0, 0, 0), 0);
        });
        told.test("no jobs", () -> {
            PartShelves x = new PartShelves();
            for (int k = 0; k < 6; k++) {
                due.is("needs", x.needs(k, 0, 0), false);
            }
            due.is("plan()", x.plan(), 0);
            due.is("the first job()", x.job(), 0);
        });
        told.test("nothing fits", () -> {
            for (int kind = 0; kind < 6; kind++) {
                PartShelves x = new PartShelves();
                x.part(kind, 0, 0);
                for (int product = 0; product < 6; product++) {
                    x.ask(product, 1000, 0);
                }
                due.is("match() of kind " + kind, x.match(), 0);
            }
        });
        told.test("no warranties", () -> {
            for (int kind = 0; kind < 6; kind++) {
                PartShelves x = Scenes.oneSaleOf(kind);
                x.today(11);
                due.is("returned(0), of kind " + kind + ", a day behind the sale", x.returned(0), false);
            }
        });
        told.test("nothing lent", () -> {
            PartShelves x = new PartShelves();
            x.today(100000);
            for (int k = 0; k < 4; k++) {
                due.is("late", x.late(k), NONE);
                due.is("back", x.back(k), NONE);
                due.is("lend", x.lend(k, 0, 100000), true);
            }
        });
    }

    private void newObjectHasFoundNothing() {
        told.test("nothing was found", () -> {
            PartShelves x = Scenes.alike(8, 8, 100);
            for (int k = 0; k < 6; k++) {
                x.job();
            }
            due.is("worth()", x.worth(), NONE);
            due.is("cost()", x.cost(), NONE);
            for (int k = 0; k < 8; k++) {
                due.is("of", x.of(k), NONE);
                due.is("gain(0, k)", x.gain(0, k), NONE);
                due.is("gain(1, k)", x.gain(1, k), NONE);
                due.is("does", x.does(k), false);
                due.is("serve", x.serve(k, 0), NONE);
                due.is("recalled", x.recalled(k), NONE);
            }
        });
    }

    private void today() {
        told.in("Promise 2: today");
        told.test("Today becomes a day.", () -> {
            PartShelves x = Scenes.onePair();
            due.is("today(0)", x.today(0), true);
            due.is("today(9)", x.today(9), true);
            due.is("hold(0, 0, 8)", x.hold(0, 0, 8), false);
            due.is("hold(0, 0, 9)", x.hold(0, 0, 9), true);
            due.is("today(100000)", x.today(100000), true);
            due.is("state(0)", x.state(0), Scenes.FREE);
        });
        told.test("Answers true; false when it is not such", () -> {
            PartShelves x = new PartShelves();
            for (int day : Scenes.outside(0, 100000)) {
                due.is("today(" + day + ")", x.today(day), false);
            }
            due.is("today(100000)", x.today(100000), true);
            due.is("today(100001)", x.today(100001), false);
        });
        told.test("or before today", () -> {
            PartShelves x = new PartShelves();
            x.today(50);
            due.is("today(49)", x.today(49), false);
            due.is("today(0)", x.today(0), false);
            due.is("today(50), today itself", x.today(50), true);
            due.is("today(51)", x.today(51), true);
            x.today(100000);
            due.is("today(99999)", x.today(99999), false);
            due.is("today(100000)", x.today(100000), true);
        });
    }

    private void row() {
        told.in("Promise 3: row");
        told.test("One more price row", () -> {
            PartShelves x = new PartShelves();
            x.part(0, 7, 0);
            due.is("row(3, 40)", x.row(3, 40), true);
            due.is("price(0)", x.price(0), 40);
            due.is("row(7, 50)", x.row(7, 50), true);
            due.is("price(0)", x.price(0), 50);
            due.is("row(8, 60)", x.row(8, 60), true);
            due.is("price(0)", x.price(0), 50);
        });
        told.test("from an age 0 .. 1000 on", () -> {
            PartShelves x = new PartShelves();
            for (int age : Scenes.outside(0, 1000)) {
                due.is("row(" + age + ", 5)", x.row(age, 5), false);
            }
            due.is("row(0, 5)", x.row(0, 5), true);
            due.is("row(1000, 6)", x.row(1000, 6), true);
            due.is("row(1001, 7)", x.row(1001, 7), false);
        });
        told.test("greater than that of the row before", () -> {
            PartShelves x = new PartShelves();
            x.row(10, 5);
            x.row(20, 6);
            due.is("row(20, 7), the same", x.row(20, 7), false);
            due.is("row(19, 7), one less", x.row(19, 7), false);
            due.is("row(15, 7), between two rows", x.row(15, 7), false);
            due.is("row(0, 7)", x.row(0, 7), false);
            due.is("row(21, 7), one more", x.row(21, 7), true);
        });
        told.test("0 .. 100000 cents", () -> {
            PartShelves x = new PartShelves();
            x.part(0, 1000, 0);
            for (long cents : Scenes.outside(0L, 100000L)) {
                due.is("row(0, " + cents + ")", x.row(0, cents), false);
            }
            due.is("row(0, 100000)", x.row(0, 100000), true);
            due.is("price(0)", x.price(0), 100000);
            due.is("row(1, 0)", x.row(1, 0), true);
            due.is("price(0)", x.price(0), 0);
        });
        told.test("Answers true; false when these are not such", () -> {
            PartShelves x = new PartShelves();
            x.part(0, 1000, 0);
            due.is("row(-1, -1)", x.row(-1, -1), false);
            due.is("row(1001, 100001)", x.row(1001, 100001), false);
            due.is("row(5, -1)", x.row(5, -1), false);
            due.is("row(-1, 5)", x.row(-1, 5), false);
            due.is("price(0): no row was made", x.price(0), 0);
            due.is("row(0, 5): none is before it", x.row(0, 5), true);
        });
        told.test("or there are 6", () -> {
            PartShelves x = new PartShelves();
            x.part(0, 1000, 0);
            for (int age = 0; age < 6; age++) {
                due.is("row", x.row(age, 10 + age), true);
            }
            due.is("row 7", x.row(6, 16), false);
            due.is("row 7", x.row(1000, 17), false);
            due.is("price(0)", x.price(0), 15);
        });
    }

    private void fits() {
        told.in("Promise 4: fits");
        told.test("Parts of a kind fit a product, or not.", () -> {
            for (int kind = 0; kind < 6; kind++) {
                for (int product = 0; product < 6; product++) {
                    PartShelves x = Scenes.oneOfEach();
                    due.is("fits(.., true)", x.fits(kind, product, true), true);
                    due.is("match()", x.match(), 1);
                    due.is("of(" + product + ")", x.of(product), kind);
                    due.is("fits(.., true) again", x.fits(kind, product, true), true);
                    due.is("match()", x.match(), 1);
                    due.is("fits(.., false)", x.fits(kind, product, false), true);
                    due.is("match()", x.match(), 0);
                    due.is("fits(.., false) again", x.fits(kind, product, false), true);
                }
            }
        });
        told.test("Answers true; false when there are none such", () -> {
            PartShelves none = Scenes.oneOfEach();
            PartShelves all = Scenes.oneOfEach();
            for (int i = 0; i < 36; i++) {
                due.is("fits", all.fits(i / 6, i % 6, true), true);
            }
            for (int wrong : Scenes.outside(0, 5)) {
                for (int right = 0; right <= 5; right++) {
                    due.is("fits of no kind", none.fits(wrong, right, true), false);
                    due.is("fits of no product", none.fits(right, wrong, true), false);
                    due.is("fits of no kind", all.fits(wrong, right, false), false);
                    due.is("fits of no product", all.fits(right, wrong, false), false);
                }
            }
            due.is("fits(-1, 6, true)", none.fits(-1, 6, true), false);
            due.is("fits(1, -6, true)", none.fits(1, -6, true), false);
            due.is("fits(0, 35, true)", none.fits(0, 35, true), false);
            due.is("match() of nothing that fits", none.match(), 0);
            due.is("match() of all that fits", all.match(), 6);
            due.is("worth()", all.worth(), 600);
        });
    }

    private void part() {
        told.in("Promise 5: part");
        told.test("One more part, free", () -> {
            PartShelves x = new PartShelves();
            x.ask(0, 0, 0);
            for (int p = 0; p < 8; p++) {
                x.part(0, 0, p);
                due.is("state", x.state(p), Scenes.FREE);
                due.is("hold", x.hold(p, 0, 0), true);
            }
        });
        told.test("with a serial of 0 .. 1000000000", () -> {
            PartShelves x = new PartShelves();
            for (long serial : Scenes.outside(0L, 1000000000L)) {
                due.is("part(0, 0, " + serial + ")", x.part(0, 0, serial), NONE);
            }
            due.is("part(0, 0, 0)", x.part(0, 0, 0), 0);
            due.is("part(0, 0, 1000000000)", x.part(0, 0, 1000000000L), 1);
            due.is("recall(0, 1000000000, 1000000000)", x.recall(0, 1000000000L, 1000000000L), 0);
            due.is("state(0)", x.state(0), Scenes.FREE);
            due.is("state(1)", x.state(1), Scenes.RECALLED);
        });
        told.test("Answers its number", () -> {
            PartShelves x = new PartShelves();
            due.is("the first", x.part(5, 1000, 1000000000L), 0);
            due.is("one that is refused", x.part(6, 0, 0), NONE);
            for (int p = 1; p < 8; p++) {
                due.is("the next", x.part(0, 0, 0), p);
            }
        });
        told.test("NONE when there are 8", () -> {
            PartShelves x = Scenes.alike(7, 0, 0);
            due.is("the eighth", x.part(0, 0, 0), 7);
            due.is("the ninth", x.part(0, 0, 0), NONE);
            x.recall(0, 0, 10);
            due.is("the ninth when all are recalled", x.part(0, 0, 0), NONE);
            due.is("state(8)", x.state(8), NONE);
        });
        told.test("or these are not such", () -> {
            PartShelves x = new PartShelves();
            for (int kind : Scenes.outside(0, 5)) {
                due.is("part(" + kind + ", 0, 0)", x.part(kind, 0, 0), NONE);
            }
            for (int age : Scenes.outside(0, 1000)) {
                due.is("part(0, " + age + ", 0)", x.part(0, age, 0), NONE);
            }
            due.is("part(0, 0, -1)", x.part(0, 0, -1), NONE);
            due.is("state(0)", x.state(0), NONE);
            due.is("part(0, 0, 0)", x.part(0, 0, 0), 0);
        });
    }

    private void priceAndState() {
        told.in("Promise 6: price");
        told.test("A part's price", () -> {
            PartShelves x = Scenes.oneOfEachState();
            x.row(0, 100000);
            for (int p = 0; p < 4; p++) {
                due.is("price(" + p + "), whatever it is", x.price(p), 100000);
            }
        });
        told.test("NONE when there is none such", () -> {
            PartShelves x = Scenes.oneOfEachState();
            x.row(0, 5);
            for (int p : Scenes.outside(0, 3)) {
                due.is("price(" + p + ")", x.price(p), NONE);
            }
            PartShelves full = Scenes.alike(8, 0, 0);
            due.is("price(7) of 8", full.price(7), 0);
            due.is("price(8) of 8", full.price(8), NONE);
        });

        told.in("Promise 7: state");
        told.test("What a part is", () -> {
            PartShelves x = Scenes.oneOfEachState();
            for (int p = 0; p < 4; p++) {
                due.is("state(" + p + ")", x.state(p), p);
            }
            x.today(100000);
            due.is("state(1), whose hold has ended", x.state(1), Scenes.FREE);
            due.is("state(2) stays sold", x.state(2), Scenes.SOLD);
            due.is("state(3) stays recalled", x.state(3), Scenes.RECALLED);
        });
        told.test("NONE when there is none such", () -> {
            PartShelves x = Scenes.oneOfEachState();
            for (int p : Scenes.outside(0, 3)) {
                due.is("state(" + p + ")", x.state(p), NONE);
            }
            PartShelves full = Scenes.alike(8, 0, 0);
            due.is("state(7) of 8", full.state(7), Scenes.FREE);
            due.is("state(8) of 8", full.state(8), NONE);
        });
    }

    private void ask() {
        told.in("Promise 8: ask");
        told.test("of 0 .. 1000000 cents", () -> {
            PartShelves x = Scenes.alike(2, 0, 0);
            for (long cents : Scenes.outside(0L, 1000000L)) {
                due.is("ask(0, " + cents + ", 0)", x.ask(0, cents, 0), NONE);
            }
            due.is("ask(0, 0, 0)", x.ask(0, 0, 0), 0);
            due.is("ask(0, 1000000, 0)", x.ask(0, 1000000, 0), 1);
            due.is("match()", x.match(), 2);
            due.is("worth()", x.worth(), 1000000);
        });
        told.test("at a minute of 0 .. 1000000000", () -> {
            PartShelves x = Scenes.alike(1, 0, 0);
            for (long minute : Scenes.outside(0L, 1000000000L)) {
                due.is("ask(0, 5, " + minute + ")", x.ask(0, 5, minute), NONE);
            }
            due.is("ask(0, 5, 1000000000)", x.ask(0, 5, 1000000000L), 0);
            due.is("ask(0, 5, 0)", x.ask(0, 5, 0), 1);
            due.is("match()", x.match(), 1);
            due.is("of(1), of the first minute", x.of(1), 0);
        });
        told.test("Answers its number", () -> {
            PartShelves x = new PartShelves();
            due.is("the first", x.ask(5, 1000000, 1000000000L), 0);
            due.is("one that is refused", x.ask(6, 0, 0), NONE);
            for (int a = 1; a < 8; a++) {
                due.is("the next", x.ask(0, 0, 0), a);
            }
        });
        told.test("NONE when there are 8", () -> {
            PartShelves x = Scenes.alike(1, 7, 100);
            due.is("the eighth", x.ask(0, 100, 0), 7);
            due.is("the ninth", x.ask(0, 100, 0), NONE);
            x.match();
            x.serve(0, 0);
            due.is("the ninth when one is served", x.ask(0, 100, 0), NONE);
            due.is("hold for the ninth", x.hold(0, 8, 0), false);
        });
        told.test("or these are not such", () -> {
            PartShelves x = new PartShelves();
            for (int product : Scenes.outside(0, 5)) {
                due.is("ask(" + product + ", 0, 0)", x.ask(product, 0, 0), NONE);
            }
            due.is("ask(0, -1, 0)", x.ask(0, -1, 0), NONE);
            due.is("ask(0, 0, -1)", x.ask(0, 0, -1), NONE);
            x.match();
            due.is("gain(1, 0): no ask was made", x.gain(1, 0), NONE);
            due.is("ask(0, 0, 0)", x.ask(0, 0, 0), 0);
        });
    }

    private void hold() {
        told.in("Promise 9: hold");
        told.test("A free part is held", () -> {
            PartShelves x = Scenes.oneOfEachState();
            due.is("hold of a held part", x.hold(1, 0, 20), false);
            due.is("hold of a sold part", x.hold(2, 0, 20), false);
            due.is("hold of a recalled part", x.hold(3, 0, 20), false);
            due.is("hold of a free part", x.hold(0, 0, 20), true);
            for (int p = 1; p < 4; p++) {
                due.is("state(" + p + ")", x.state(p), p);
            }
            due.is("state(0)", x.state(0), Scenes.HELD);
            x.today(16);
            due.is("state(1): its hold has ended on its old day", x.state(1), Scenes.FREE);
            due.is("hold of a part whose hold has ended", x.hold(1, 0, 16), true);
        });
        told.test("for an open ask", () -> {
            PartShelves x = Scenes.oneSale();
            x.part(0, 0, 0);
            x.ask(5, 0, 0);
            due.is("hold(1, 0, 20), for a served ask", x.hold(1, 0, 20), false);
            due.is("state(1)", x.state(1), Scenes.FREE);
            due.is("hold(1, 1, 20), for an open one that it does not fit", x.hold(1, 1, 20), true);
        });
        told.test("up to a day", () -> {
            PartShelves x = Scenes.onePair();
            x.hold(0, 0, 3);
            for (int day = 0; day <= 3; day++) {
                x.today(day);
                due.is("state(0) on day " + day, x.state(0), Scenes.HELD);
            }
            x.today(4);
            due.is("state(0) on day 4", x.state(0), Scenes.FREE);
        });
        told.test("Answers true; false when these are not such", () -> {
            PartShelves x = Scenes.onePair();
            for (int number : Scenes.outside(0, 0)) {
                due.is("hold(" + number + ", 0, 5)", x.hold(number, 0, 5), false);
                due.is("hold(0, " + number + ", 5)", x.hold(0, number, 5), false);
            }
            for (int day : Scenes.outside(0, 100000)) {
                due.is("hold(0, 0, " + day + ")", x.hold(0, 0, day), false);
            }
            due.is("state(0)", x.state(0), Scenes.FREE);
            due.is("hold(0, 0, 100000)", x.hold(0, 0, 100000), true);
        });
        told.test("or the day is before today", () -> {
            PartShelves x = Scenes.onePair();
            x.today(30);
            due.is("hold(0, 0, 29)", x.hold(0, 0, 29), false);
            due.is("hold(0, 0, 0)", x.hold(0, 0, 0), false);
            due.is("state(0)", x.state(0), Scenes.FREE);
            due.is("hold(0, 0, 30), today itself", x.hold(0, 0, 30), true);
        });
    }
}
