/** The sentences of promises 20 to 23: warranty, returned, recall, recalled. */
final class SaleBoundaries {
    private static final int NONE = PartShelves.NONE;

    private final Sentences told;
    private final Due due;

    SaleBoundaries(Sentences told, Due due) {
        this.told = told;
        this.due = due;
    }

    void test() {
        warranty();
        returned();
        recall();
        recallTells();
        recalled();
    }

    /** Eight parts of kind 0 with the serials 0 to 7, all sold: part p to person 9 - p. */
    private static PartShelves eightSold() {
        PartShelves x = Scenes.alike(8, 8, 5);
        x.match();
        for (int a = 0; a < 8; a++) {
            x.serve(a, 9 - a);
        }
        return x;
    }

    /** Whether the one sale of day 10 can come back so many days later. */
    private static boolean comesBack(int warranty, int later) {
        PartShelves x = Scenes.oneSale();
        x.warranty(0, warranty);
        x.today(10 + later);
        return x.returned(0);
    }

    private void warranty() {
        told.in("Promise 20: warranty");
        told.test("How many days a kind's warranty is, 0 .. 1000", () -> {
            for (int days : new int[] {0, 1, 999, 1000}) {
                PartShelves x = Scenes.oneSale();
                due.is("warranty(0, " + days + ")", x.warranty(0, days), true);
                due.is("on the last day of " + days, comesBack(days, days), true);
                due.is("a day behind the last of " + days, comesBack(days, days + 1), false);
            }
            PartShelves x = Scenes.oneSale();
            for (int days : Scenes.outside(0, 1000)) {
                due.is("warranty(0, " + days + ")", x.warranty(0, days), false);
            }
            x.today(11);
            due.is("returned(0): no warranty was taken", x.returned(0), false);
        });
        told.test("(0 at first)", () -> {
            for (int kind = 0; kind < 6; kind++) {
                PartShelves same = Scenes.oneSaleOf(kind);
                due.is("returned(0) on the day of the sale", same.returned(0), true);
                PartShelves next = Scenes.oneSaleOf(kind);
                next.today(11);
                due.is("returned(0) on the next day", next.returned(0), false);
            }
        });
        told.test("Answers true, or false.", () -> {
            PartShelves x = Scenes.oneSale();
            for (int kind = 0; kind <= 5; kind++) {
                due.is("warranty(" + kind + ", 1000)", x.warranty(kind, 1000), true);
            }
            for (int kind : Scenes.outside(0, 5)) {
                due.is("warranty(" + kind + ", 0)", x.warranty(kind, 0), false);
            }
            due.is("warranty(0, 2) in place of 1000", x.warranty(0, 2), true);
            x.today(13);
            due.is("returned(0) 3 days behind the sale", x.returned(0), false);
            due.is("warranty(0, 3)", x.warranty(0, 3), true);
            due.is("returned(0) by the longer warranty", x.returned(0), true);
        });
    }

    private void returned() {
        told.in("Promise 21: returned");
        told.test("A sold part comes back today", () -> {
            PartShelves x = Scenes.oneOfEachState();
            x.warranty(0, 1000);
            due.is("returned(0), free", x.returned(0), false);
            due.is("returned(1), held", x.returned(1), false);
            due.is("returned(3), recalled", x.returned(3), false);
            for (int part = 0; part < 4; part++) {
                due.is("state(" + part + ")", x.state(part), part);
            }
            due.is("returned(2), sold", x.returned(2), true);
            due.is("returned(2) again", x.returned(2), false);
        });
        told.test("if that is not more than its kind's warranty behind the day of its sale", () -> {
            for (int later = 0; later <= 8; later++) {
                due.is("5 days' warranty, " + later + " days later", comesBack(5, later), later <= 5);
            }
            for (int kind = 0; kind < 6; kind++) {
                PartShelves x = Scenes.oneSaleOf(2);
                x.warranty(kind, 1000);
                x.today(11);
                due.is("returned(0), of kind 2, by the warranty of kind " + kind, x.returned(0), kind == 2);
            }

            PartShelves first = Scenes.onePair();
            first.match();
            first.serve(0, 0);
            first.warranty(0, 1000);
            first.today(100000);
            due.is("returned(0) from the first day to the last", first.returned(0), false);

            PartShelves last = Scenes.onePair();
            last.match();
            last.today(100000);
            last.serve(0, 0);
            due.is("returned(0) on the last of all days", last.returned(0), true);
        });
        told.test("it is free again", () -> {
            PartShelves x = Scenes.oneSale();
            x.ask(0, 60, 0);
            due.is("match() of a sold part", x.match(), 0);
            due.is("returned(0)", x.returned(0), true);
            due.is("state(0)", x.state(0), Scenes.FREE);
            due.is("match()", x.match(), 1);
            due.is("of(1)", x.of(1), 0);
            due.is("hold(0, 1, 10)", x.hold(0, 1, 10), true);

            PartShelves sold = Scenes.oneSale();
            due.is("recall() that tells it as sold", sold.recall(0, 50, 50), 1);
            due.is("returned(0) then", sold.returned(0), true);
            due.is("state(0): it was not recalled", sold.state(0), Scenes.FREE);
            due.is("recall() when it is free again", sold.recall(0, 50, 50), 0);
            due.is("state(0) then", sold.state(0), Scenes.RECALLED);
        });
        told.test("Answers true; false otherwise.", () -> {
            PartShelves x = Scenes.oneSale();
            for (int part : Scenes.outside(0, 0)) {
                due.is("returned(" + part + ")", x.returned(part), false);
            }
            x.today(11);
            due.is("returned(0) too late", x.returned(0), false);
            due.is("state(0)", x.state(0), Scenes.SOLD);
            PartShelves full = eightSold();
            due.is("returned(7) of 8", full.returned(7), true);
            due.is("returned(8) of 8", full.returned(8), false);
            due.is("returned(0) of no parts", new PartShelves().returned(0), false);
        });
    }

    private void recall() {
        told.in("Promise 22: recall");
        told.test("All parts of a kind", () -> {
            PartShelves x = Scenes.oneOfEach();
            x.part(5, 0, 0);
            x.part(0, 0, 0);
            due.is("recall(5, 0, 10)", x.recall(5, 0, 10), 0);
            for (int part = 0; part < 8; part++) {
                boolean isOfKind = part == 5 || part == 6;
                due.is("state(" + part + ")", x.state(part), isOfKind ? Scenes.RECALLED : Scenes.FREE);
            }
            PartShelves all = Scenes.alike(8, 0, 0);
            all.recall(0, 0, 7);
            for (int part = 0; part < 8; part++) {
                due.is("state(" + part + ")", all.state(part), Scenes.RECALLED);
            }
        });
        told.test("whose serials are from one to another are recalled", () -> {
            PartShelves x = new PartShelves();
            long[] serials = {0, 9, 10, 11, 20, 21, 1000000000L};
            for (long serial : serials) {
                x.part(0, 0, serial);
            }
            recallsOnly(x, 12, 19, 0);
            recallsOnly(x, 20, 10, 0);
            recallsOnly(x, Long.MAX_VALUE, Long.MIN_VALUE, 0);
            recallsOnly(x, Long.MIN_VALUE, -1, 0);
            recallsOnly(x, 1000000001L, Long.MAX_VALUE, 0);
            recallsOnly(x, 1L << 32, (1L << 32) + 100, 0);
            recallsOnly(x, 10, 20, 0b0011100);
            recallsOnly(x, 9, 9, 0b0011110);
            recallsOnly(x, -5, 0, 0b0011111);
            recallsOnly(x, 1000000000L, 1000000000L, 0b1011111);
            recallsOnly(x, Long.MIN_VALUE, Long.MAX_VALUE, 0b1111111);
        });
        told.test("but those that are sold", () -> {
            PartShelves x = Scenes.oneOfEachState();
            x.recall(0, 0, 10);
            due.is("state(0), which was free", x.state(0), Scenes.RECALLED);
            due.is("state(1), which was held", x.state(1), Scenes.RECALLED);
            due.is("state(2), which was sold", x.state(2), Scenes.SOLD);
            due.is("state(3), which was recalled", x.state(3), Scenes.RECALLED);
            x.today(100);
            due.is("state(1) behind its hold's day", x.state(1), Scenes.RECALLED);
        });
    }

    private void recallsOnly(PartShelves x, long from, long to, int recalledThen) {
        due.is("recall(0, " + from + ", " + to + ")", x.recall(0, from, to), 0);
        for (int part = 0; part < 7; part++) {
            boolean is = (recalledThen >> part & 1) == 1;
            due.is("state(" + part + ") then", x.state(part), is ? Scenes.RECALLED : Scenes.FREE);
        }
    }

    private void recallTells() {
        told.test("Answers how many of these are sold", () -> {
            due.is("recall() of no parts", new PartShelves().recall(0, 0, 10), 0);
            PartShelves x = eightSold();
            due.is("recall() of all 8", x.recall(0, 0, 7), 8);
            due.is("recall() of one", x.recall(0, 7, 7), 1);
            due.is("recall() of serials that none has", x.recall(0, 8, 100), 0);
            due.is("recall() of another kind", x.recall(1, 0, 7), 0);
            due.is("recall() of parts of each state", Scenes.oneOfEachState().recall(0, 0, 9), 1);
        });
        told.test("NONE when there is no such kind", () -> {
            PartShelves x = Scenes.oneOfEach();
            for (int kind : Scenes.outside(0, 5)) {
                due.is("recall(" + kind + ", 0, 10)", x.recall(kind, 0, 10), NONE);
            }
            for (int part = 0; part < 6; part++) {
                due.is("state(" + part + ")", x.state(part), Scenes.FREE);
            }
            due.is("recall(0, 10, 0): there is such a kind", x.recall(0, 10, 0), 0);
        });
        told.test("(They are told by recalled() then, until the next one.)", () -> {
            PartShelves x = eightSold();
            due.is("recalled(0) before one", x.recalled(0), NONE);
            x.recall(0, 2, 3);
            due.is("recalled(0)", x.recalled(0), 27);
            due.is("recalled(1)", x.recalled(1), 36);
            x.recall(6, 0, 7);
            due.is("recalled(1) behind a refused one", x.recalled(1), 36);
            x.recall(0, 5, 5);
            due.is("recalled(0) of the next one", x.recalled(0), 54);
            due.is("recalled(1) of the next one", x.recalled(1), NONE);
            x.recall(1, 0, 7);
            due.is("recalled(0) of one that told none", x.recalled(0), NONE);
        });
    }

    private void recalled() {
        told.in("Promise 23: recalled");
        told.test("The k-th part, by numbers", () -> {
            PartShelves x = eightSold();
            x.recall(0, 0, 7);
            for (int k = 0; k < 8; k++) {
                due.is("recalled(" + k + ")", x.recalled(k), 10 * k + 9 - k);
            }
            PartShelves turned = new PartShelves();
            turned.fits(0, 0, true);
            for (int p = 0; p < 3; p++) {
                turned.part(0, 0, 30 - p);
                turned.ask(0, 5, 0);
            }
            turned.match();
            for (int a = 2; a >= 0; a--) {
                turned.serve(a, a);
            }
            due.is("recall() of those sold first and of lesser serials", turned.recall(0, 28, 30), 3);
            for (int k = 0; k < 3; k++) {
                due.is("recalled(" + k + ")", turned.recalled(k), 11 * k);
            }
        });
        told.test("that was told as sold by the latest recall()", () -> {
            PartShelves x = eightSold();
            x.recall(0, 1, 6);
            due.is("recalled(0)", x.recalled(0), 18);
            x.returned(1);
            due.is("recalled(0) when the part came back", x.recalled(0), 18);
            x.recall(0, 1, 6);
            due.is("recalled(0) of the latest: part 1 was not sold then", x.recalled(0), 27);
            due.is("recalled(4)", x.recalled(4), 63);
            due.is("recalled(5)", x.recalled(5), NONE);
        });
        told.test("10 times its number and the person who had it then", () -> {
            PartShelves x = Scenes.alike(8, 8, 5);
            x.match();
            x.serve(0, 0);
            x.serve(7, 9);
            x.recall(0, 0, 7);
            due.is("recalled(0), at its least", x.recalled(0), 0);
            due.is("recalled(1), at its most", x.recalled(1), 79);

            PartShelves again = Scenes.oneSale();
            again.recall(0, 50, 50);
            again.returned(0);
            again.ask(0, 100, 0);
            again.match();
            again.serve(1, 3);
            due.is("recalled(0): person 7 had it then", again.recalled(0), 7);
            again.recall(0, 50, 50);
            due.is("recalled(0): person 3 has it now", again.recalled(0), 3);
        });
        told.test("NONE when there is none such", () -> {
            due.is("recalled(0) before a recall", new PartShelves().recalled(0), NONE);
            PartShelves x = eightSold();
            x.recall(0, 0, 2);
            for (int k : Scenes.outside(0, 2)) {
                due.is("recalled(" + k + ")", x.recalled(k), NONE);
            }
            x.recall(0, 0, 7);
            due.is("recalled(7) of 8", x.recalled(7), 72);
            due.is("recalled(8) of 8", x.recalled(8), NONE);
        });
    }
}
