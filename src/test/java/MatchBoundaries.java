/** The terms of the best match, and the sentences of promises 10 to 14: match, of, worth, gain, serve. */
final class MatchBoundaries {
    private static final int NONE = PartShelves.NONE;

    private final Sentences told;
    private final Due due;

    MatchBoundaries(Sentences told, Due due) {
        this.told = told;
        this.due = due;
    }

    void test() {
        told.in("Terms");
        pairs();
        matches();
        theFirstOfTheBest();
        match();
        of();
        worth();
        gain();
        serve();
        serveStill();
    }

    private void pairs() {
        told.test("A part and an open ask are a PAIR", () -> {
            PartShelves x = Scenes.oneSale();
            x.returned(0);
            due.is("match() of a served ask and a free part", x.match(), 0);
            x.ask(0, 100, 0);
            due.is("match() with an open ask", x.match(), 1);
            due.is("of(1)", x.of(1), 0);
        });
        told.test("when the part's kind fits the product", () -> {
            PartShelves x = Scenes.oneOfEach();
            x.fits(2, 3, true);
            due.is("match()", x.match(), 1);
            due.is("of(3)", x.of(3), 2);
            due.is("of(2): a product does not fit a kind", x.of(2), NONE);
        });
        told.test("the ask's cents are not less than the price", () -> {
            for (long price : new long[] {0, 1, 50, 100000}) {
                PartShelves x = Scenes.alike(1, 0, 0);
                x.row(0, price);
                x.ask(0, Math.max(price - 1, 0), 0);
                due.is("match() of one cent less", x.match(), price == 0 ? 1 : 0);
                x.ask(0, price, 0);
                due.is("match() of the price itself", x.match(), 1);
                due.is("of(1)", x.of(1), price == 0 ? NONE : 0);
            }
        });
        told.test("the part is free, or held for this ask", () -> {
            for (int part = 0; part < 4; part++) {
                PartShelves x = Scenes.oneOfEachState();
                x.ask(0, 1000, 0);
                for (int other = 0; other < 4; other++) {
                    if (other != part) {
                        x.recall(0, other, other);
                    }
                }
                x.match();
                due.is("of(0) with part " + part + ", held for it is 1", x.of(0), part == 1 ? 1 : NONE);
                due.is("of(2) with part " + part + ", free is 0", x.of(2), part == 0 ? 0 : NONE);
            }
        });
        told.test("Its WORTH is what the cents are more.", () -> {
            long[][] pricesAndCents = {{0, 0}, {0, 1}, {7, 7}, {7, 8}, {100000, 100000}, {100000, 1000000},
                {0, 1000000}};
            for (long[] one : pricesAndCents) {
                PartShelves x = Scenes.alike(1, 1, one[1]);
                x.row(0, one[0]);
                due.is("match()", x.match(), 1);
                due.is("worth() of " + one[1] + " for " + one[0], x.worth(), one[1] - one[0]);
            }
        });
    }

    private void matches() {
        told.test("A MATCH are pairs of which no two have a part or an ask together.", () -> {
            due.is("match() of a part and 8 asks", Scenes.alike(1, 8, 5).match(), 1);
            due.is("match() of 8 parts and an ask", Scenes.alike(8, 1, 5).match(), 1);
            PartShelves x = Scenes.alike(3, 8, 5);
            due.is("match() of 3 parts and 8 asks", x.match(), 3);
            due.is("worth()", x.worth(), 15);
            int gone = 0;
            for (int a = 0; a < 8; a++) {
                int part = x.of(a);
                due.is("part " + part + " is given once", part != NONE && (gone >> part & 1) == 1, false);
                gone |= part == NONE ? 0 : 1 << part;
            }
            due.is("all parts are given", gone, 7);
        });
        told.test("THE BEST match has the greatest worth of its pairs together", () -> {
            PartShelves few = new PartShelves();
            few.row(0, 90);
            few.row(1, 0);
            few.fits(0, 0, true);
            few.fits(0, 1, true);
            few.fits(1, 0, true);
            few.part(0, 1, 0);
            few.part(1, 0, 0);
            few.ask(0, 100, 5);
            few.ask(1, 3, 0);
            due.is("match(): one pair of 100 before two of 10 and 3", few.match(), 1);
            due.is("worth()", few.worth(), 100);
            due.is("of(0)", few.of(0), 0);
            few.ask(1, 91, 9);
            due.is("match(): two of 10 and 91 before one of 100", few.match(), 2);
            due.is("worth()", few.worth(), 101);
            due.is("of(0)", few.of(0), 1);
            due.is("of(1)", few.of(1), NONE);
            due.is("of(2)", few.of(2), 0);
        });
    }

    private void theFirstOfTheBest() {
        told.test("of those it is the first: asks stand by their minutes, then numbers", () -> {
            PartShelves x = Scenes.alike(1, 0, 0);
            x.ask(0, 10, 1000000000L);
            x.match();
            due.is("of(0), alone", x.of(0), 0);
            x.ask(0, 10, 999999999L);
            x.match();
            due.is("of(1), a minute before", x.of(1), 0);
            x.ask(0, 10, 999999999L);
            x.match();
            due.is("of(1), of the same minute as 2", x.of(1), 0);
            x.ask(0, 10, 0);
            x.match();
            due.is("of(3), of minute 0", x.of(3), 0);

            PartShelves turned = Scenes.alike(8, 0, 0);
            for (int a = 0; a < 8; a++) {
                turned.ask(0, 10, 7 - a);
            }
            due.is("match()", turned.match(), 8);
            for (int a = 0; a < 8; a++) {
                due.is("of(" + a + ")", turned.of(a), 7 - a);
            }
        });
        told.test("of two matches the one is first that gives the first ask, for which they differ, "
                + "the part with the lesser number", () -> {
            PartShelves x = Scenes.alike(8, 8, 10);
            due.is("match()", x.match(), 8);
            for (int a = 0; a < 8; a++) {
                due.is("of(" + a + ")", x.of(a), a);
            }
            PartShelves second = new PartShelves();
            second.fits(0, 0, true);
            second.fits(1, 1, true);
            second.part(0, 0, 0);
            second.part(1, 0, 0);
            second.part(1, 0, 0);
            second.ask(1, 10, 3);
            second.ask(0, 10, 1);
            second.ask(1, 10, 2);
            due.is("match()", second.match(), 3);
            due.is("of(1), first: they do not differ", second.of(1), 0);
            due.is("of(2), second: the lesser part", second.of(2), 1);
            due.is("of(0), third: what is left", second.of(0), 2);
        });
        told.test("(none is behind all parts)", () -> {
            PartShelves x = Scenes.alike(0, 2, 0);
            x.fits(1, 0, true);
            x.part(0, 0, 0);
            due.is("match() of a pair without worth", x.match(), 1);
            due.is("of(0)", x.of(0), 0);
            due.is("worth()", x.worth(), 0);

            PartShelves last = Scenes.alike(8, 1, 0);
            last.recall(0, 0, 6);
            due.is("match() with part 7 alone", last.match(), 1);
            due.is("of(0)", last.of(0), 7);

            PartShelves first = new PartShelves();
            first.fits(0, 0, true);
            first.fits(1, 0, true);
            first.fits(0, 1, true);
            first.part(0, 0, 0);
            first.part(1, 0, 0);
            first.ask(0, 0, 0);
            first.ask(1, 0, 1);
            due.is("match(): the lesser part for the first ask, though the second gets none", first.match(), 1);
            due.is("of(0)", first.of(0), 0);
            due.is("of(1)", first.of(1), NONE);
        });
    }

    private void match() {
        told.in("Promise 10: match");
        told.test("Finds the best match.", () -> {
            PartShelves x = Scenes.alike(8, 8, 1000000);
            x.match();
            due.is("worth() of the most and the dearest", x.worth(), 8000000);
            x.row(0, 100000);
            due.is("worth() as it was found", x.worth(), 8000000);
            x.match();
            due.is("worth() of the next match", x.worth(), 7200000);
        });
        told.test("Answers how many pairs it has.", () -> {
            due.is("match() of nothing", new PartShelves().match(), 0);
            due.is("match() of parts alone", Scenes.alike(8, 0, 0).match(), 0);
            due.is("match() of asks alone", Scenes.alike(0, 8, 5).match(), 0);
            for (int parts = 0; parts <= 8; parts++) {
                for (int asks = 0; asks <= 8; asks++) {
                    due.is("match() of pairs of worth 1", Scenes.alike(parts, asks, 1).match(), Math.min(parts, asks));
                    due.is("match() of pairs of worth 0", Scenes.alike(parts, asks, 0).match(), Math.min(parts, asks));
                }
            }
        });
    }

    private void of() {
        told.in("Promise 11: of");
        told.test("The part that the match which was found gives an ask", () -> {
            PartShelves x = Scenes.alike(8, 8, 5);
            x.match();
            due.is("of(0), the first part", x.of(0), 0);
            due.is("of(7), the last part", x.of(7), 7);
            x.serve(7, 0);
            due.is("of(7) when it is served", x.of(7), 7);
            x.recall(0, 0, 0);
            due.is("of(0) when its part is recalled", x.of(0), 0);
        });
        told.test("NONE when it gives none", () -> {
            PartShelves x = Scenes.alike(1, 2, 5);
            due.is("of(0) before a match", x.of(0), NONE);
            x.match();
            due.is("of(1), for which no part is left", x.of(1), NONE);
            for (int ask : Scenes.outside(0, 1)) {
                due.is("of(" + ask + ")", x.of(ask), NONE);
            }
            x.ask(0, 1000, 0);
            due.is("of(2), which came later", x.of(2), NONE);
            PartShelves full = Scenes.alike(8, 8, 5);
            full.match();
            due.is("of(8) of 8", full.of(8), NONE);
        });
    }

    private void worth() {
        told.in("Promise 12: worth");
        told.test("The worth of that match", () -> {
            PartShelves x = new PartShelves();
            x.match();
            due.is("worth() of no pairs", x.worth(), 0);
            PartShelves zero = Scenes.alike(1, 1, 0);
            zero.match();
            due.is("worth() of a pair of no worth", zero.worth(), 0);
            PartShelves most = Scenes.alike(8, 8, 1000000);
            most.match();
            due.is("worth() at its most", most.worth(), 8000000);
        });
        told.test("NONE before one was found", () -> {
            due.is("worth() of a new object", new PartShelves().worth(), NONE);
            PartShelves x = Scenes.onePair();
            x.plan();
            due.is("worth() behind a plan", x.worth(), NONE);
        });
    }

    private void gain() {
        told.in("Promise 13: gain");
        told.test("By how much less the best match was worth", () -> {
            PartShelves none = Scenes.alike(2, 2, 0);
            none.match();
            due.is("gain(0, 0) of no worth", none.gain(0, 0), 0);
            due.is("gain(1, 0) of no worth", none.gain(1, 0), 0);
            PartShelves most = Scenes.alike(8, 8, 1000000);
            most.match();
            for (int k = 0; k < 8; k++) {
                due.is("gain(0, " + k + ") at its most", most.gain(0, k), 1000000);
                due.is("gain(1, " + k + ") at its most", most.gain(1, k), 1000000);
            }
            PartShelves spare = Scenes.alike(2, 1, 1000000);
            spare.match();
            due.is("gain(0, 0): another part does as well", spare.gain(0, 0), 0);
            due.is("gain(0, 1), which is not given", spare.gain(0, 1), 0);
            due.is("gain(1, 0)", spare.gain(1, 0), 1000000);
        });
        told.test("as things were when it was found", () -> {
            PartShelves x = Scenes.alike(1, 1, 100);
            x.match();
            x.row(0, 60);
            x.part(0, 0, 0);
            x.ask(0, 100, 0);
            due.is("gain(0, 0)", x.gain(0, 0), 100);
            due.is("gain(1, 0)", x.gain(1, 0), 100);
            x.fits(0, 0, false);
            x.recall(0, 0, 9);
            due.is("gain(0, 0)", x.gain(0, 0), 100);
            due.is("gain(1, 0)", x.gain(1, 0), 100);
        });
        told.test("without a part (side = 0) or an ask (1)", () -> {
            PartShelves x = Scenes.alike(2, 0, 0);
            x.row(1, 30);
            x.part(0, 1, 0);
            x.ask(0, 50, 0);
            x.ask(0, 80, 0);
            x.ask(0, 40, 0);
            x.match();
            due.is("worth()", x.worth(), 50 + 80 + 10);
            long[] parts = {40, 40, 10};
            long[] asks = {20, 50, 10};
            for (int k = 0; k < 3; k++) {
                due.is("gain(0, " + k + ")", x.gain(0, k), parts[k]);
                due.is("gain(1, " + k + ")", x.gain(1, k), asks[k]);
            }
            for (int side : Scenes.outside(0, 1)) {
                due.is("gain(" + side + ", 0)", x.gain(side, 0), NONE);
            }
        });
        told.test("NONE when there was none such then", this::gainOfNone);
    }

    private void gainOfNone() {
        PartShelves x = Scenes.alike(3, 2, 5);
        due.is("gain(0, 0) before a match", x.gain(0, 0), NONE);
        due.is("gain(1, 0) before a match", x.gain(1, 0), NONE);
        x.match();
        due.is("gain(0, 2), the last part", x.gain(0, 2), 0);
        for (int k : Scenes.outside(0, 2)) {
            due.is("gain(0, " + k + ")", x.gain(0, k), NONE);
        }
        for (int k : Scenes.outside(0, 1)) {
            due.is("gain(1, " + k + ")", x.gain(1, k), NONE);
        }
        x.part(0, 0, 0);
        x.ask(0, 5, 0);
        due.is("gain(0, 3), which came later", x.gain(0, 3), NONE);
        due.is("gain(1, 2), which came later", x.gain(1, 2), NONE);
        x.match();
        due.is("gain(0, 3)", x.gain(0, 3), 0);
        due.is("gain(1, 2)", x.gain(1, 2), 5);
        PartShelves sold = Scenes.oneSale();
        sold.match();
        due.is("gain(0, 0), sold, but there", sold.gain(0, 0), 0);
        due.is("gain(1, 0), served, but there", sold.gain(1, 0), 0);
        PartShelves full = Scenes.alike(8, 8, 5);
        full.match();
        due.is("gain(0, 8) of 8", full.gain(0, 8), NONE);
        due.is("gain(1, 8) of 8", full.gain(1, 8), NONE);
    }

    private void serve() {
        told.in("Promise 14: serve");
        told.test("An open ask is served", () -> {
            PartShelves x = Scenes.onePair();
            x.match();
            due.is("serve(0, 1)", x.serve(0, 1), 0);
            due.is("serve(0, 1) of a served ask", x.serve(0, 1), NONE);
            x.returned(0);
            due.is("serve(0, 1) when its part is free again", x.serve(0, 1), NONE);
            due.is("state(0)", x.state(0), Scenes.FREE);
            due.is("hold(0, 0, 0): it is open no more", x.hold(0, 0, 0), false);
        });
        told.test("the part that the match which was found gives it", () -> {
            PartShelves x = Scenes.alike(2, 3, 5);
            due.is("serve(0, 1) before a match", x.serve(0, 1), NONE);
            x.match();
            due.is("serve(2, 1), to which none is given", x.serve(2, 1), NONE);
            due.is("serve(1, 1)", x.serve(1, 1), 1);
            due.is("state(1)", x.state(1), Scenes.SOLD);
            due.is("state(0)", x.state(0), Scenes.FREE);
            x.ask(0, 500, 0);
            due.is("serve(3, 1), which came later", x.serve(3, 1), NONE);
            due.is("serve(0, 1)", x.serve(0, 1), 0);
        });
        told.test("is sold to a person today", () -> {
            PartShelves x = Scenes.onePair();
            x.warranty(0, 5);
            x.match();
            x.today(100);
            x.serve(0, 9);
            due.is("state(0)", x.state(0), Scenes.SOLD);
            x.recall(0, 50, 50);
            due.is("recalled(0): to person 9", x.recalled(0), 9);
            x.today(105);
            due.is("returned(0): on day 100", x.returned(0), true);

            PartShelves early = Scenes.onePair();
            early.warranty(0, 5);
            early.match();
            early.today(100);
            early.serve(0, 0);
            early.today(106);
            due.is("returned(0): not behind day 100", early.returned(0), false);
        });
        told.test("Answers the part; NONE when these are not such.", () -> {
            PartShelves x = Scenes.alike(8, 0, 0);
            for (int a = 0; a < 8; a++) {
                x.ask(0, 5, 7 - a);
            }
            x.match();
            for (int ask : Scenes.outside(0, 7)) {
                due.is("serve(" + ask + ", 0)", x.serve(ask, 0), NONE);
            }
            for (int person : Scenes.outside(0, 9)) {
                due.is("serve(0, " + person + ")", x.serve(0, person), NONE);
            }
            due.is("state(7)", x.state(7), Scenes.FREE);
            for (int a = 0; a < 8; a++) {
                due.is("serve(" + a + ", " + a + ")", x.serve(a, a), 7 - a);
            }
        });
    }

    private void serveStill() {
        told.test("if it is a pair with it still", () -> {
            PartShelves unfit = Scenes.onePair();
            unfit.match();
            unfit.fits(0, 0, false);
            due.is("serve(0, 1) when it fits no more", unfit.serve(0, 1), NONE);
            unfit.fits(0, 0, true);
            due.is("serve(0, 1) when it fits again", unfit.serve(0, 1), 0);

            PartShelves dear = Scenes.onePair();
            dear.match();
            dear.row(0, 101);
            due.is("serve(0, 1) for one cent too few", dear.serve(0, 1), NONE);
            PartShelves just = Scenes.onePair();
            just.match();
            just.row(0, 100);
            due.is("serve(0, 1) for the price itself", just.serve(0, 1), 0);

            PartShelves recalled = Scenes.onePair();
            recalled.match();
            recalled.recall(0, 50, 50);
            due.is("serve(0, 1) when it is recalled", recalled.serve(0, 1), NONE);
            due.is("state(0)", recalled.state(0), Scenes.RECALLED);
            recalled.part(0, 0, 51);
            due.is("match(): the ask is open still", recalled.match(), 1);
            due.is("serve(0, 1) with another part", recalled.serve(0, 1), 1);

            PartShelves held = Scenes.alike(1, 2, 5);
            held.match();
            held.hold(0, 1, 3);
            due.is("serve(0, 1) when it is held for ask 1", held.serve(0, 1), NONE);
            held.today(3);
            due.is("serve(0, 1) on the hold's last day", held.serve(0, 1), NONE);
            held.today(4);
            due.is("serve(0, 1) a day behind the hold", held.serve(0, 1), 0);

            PartShelves own = Scenes.onePair();
            own.match();
            own.hold(0, 0, 3);
            due.is("serve(0, 1) when it is held for this ask", own.serve(0, 1), 0);
        });
    }
}
