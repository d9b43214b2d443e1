/** Each promise by itself: ordinary inputs, the edges that the document names, wrong inputs. */
public final class PromiseTest {
    private static final int NONE = PartShelves.NONE;
    private static final int[] NO_NUMBERS = {-1, Integer.MIN_VALUE, Integer.MAX_VALUE};
    private static final Due due = new Due("PromiseTest");

    public static void main(String[] args) {
        newObject();
        today();
        row();
        fits();
        part();
        price();
        state();
        ask();
        hold();
        match();
        matchTakesTheFirstOfEqualOnes();
        of();
        worth();
        gain();
        serve();
        serveNeedsAPairStill();
        job();
        needs();
        plan();
        planChoosesAmongEquals();
        cost();
        does();
        warranty();
        returned();
        recall();
        recalled();
        lend();
        back();
        late();
        due.end();
    }

    private static void newObject() {
        due.at("promise 1");
        PartShelves x = new PartShelves();
        due.is("NONE", PartShelves.NONE, -1);
        due.is("state(0)", x.state(0), NONE);
        due.is("price(0)", x.price(0), NONE);
        due.is("worth()", x.worth(), NONE);
        due.is("cost()", x.cost(), NONE);
        for (int k = 0; k < 9; k++) {
            due.is("of", x.of(k), NONE);
            due.is("gain(0, k)", x.gain(0, k), NONE);
            due.is("gain(1, k)", x.gain(1, k), NONE);
            due.is("does", x.does(k), false);
            due.is("recalled", x.recalled(k), NONE);
            due.is("back", x.back(k), NONE);
            due.is("late", x.late(k), NONE);
            due.is("serve", x.serve(k, 0), NONE);
            due.is("returned", x.returned(k), false);
            due.is("needs", x.needs(k, 0, 1), false);
        }
        for (int i = 0; i < 6; i++) {
            x.part(i, 0, i);
            x.ask(i, 1000, i);
        }
        due.is("match() when nothing fits", x.match(), 0);
        due.is("part() of the second object", new PartShelves().part(0, 0, 0), 0);
    }

    private static void today() {
        due.at("promise 2");
        PartShelves x = new PartShelves();
        due.is("today(-1)", x.today(-1), false);
        due.is("today(0)", x.today(0), true);
        due.is("today(5)", x.today(5), true);
        due.is("today(5)", x.today(5), true);
        due.is("today(4)", x.today(4), false);
        due.is("today(100001)", x.today(100001), false);
        due.is("today(MIN)", x.today(Integer.MIN_VALUE), false);
        due.is("today(MAX)", x.today(Integer.MAX_VALUE), false);
        due.is("today(5)", x.today(5), true);
        due.is("today(100000)", x.today(100000), true);
        due.is("today(99999)", x.today(99999), false);
        due.is("today(100000)", x.today(100000), true);
    }

    private static void row() {
        due.at("promise 3");
        PartShelves x = new PartShelves();
        due.is("row(-1, 0)", x.row(-1, 0), false);
        due.is("row(0, -1)", x.row(0, -1), false);
        due.is("row(0, 100001)", x.row(0, 100001), false);
        due.is("row(0, 2^32)", x.row(0, 1L << 32), false);
        due.is("row(1001, 0)", x.row(1001, 0), false);
        due.is("row(0, 100000)", x.row(0, 100000), true);
        due.is("row(0, 5)", x.row(0, 5), false);
        due.is("row(1, 0)", x.row(1, 0), true);
        due.is("row(0, 0)", x.row(0, 0), false);
        due.is("row(10, 7)", x.row(10, 7), true);
        due.is("row(11, 7)", x.row(11, 7), true);
        due.is("row(999, 9)", x.row(999, 9), true);
        due.is("row(1000, 8)", x.row(1000, 8), true);

        PartShelves full = new PartShelves();
        for (int age = 0; age < 6; age++) {
            due.is("row", full.row(age, age), true);
        }
        due.is("row 7", full.row(6, 6), false);
        full.part(0, 1000, 0);
        due.is("price(0)", full.price(0), 5);
    }

    private static void fits() {
        due.at("promise 4");
        PartShelves x = Scenes.onePair();
        due.is("fits(6, 0)", x.fits(6, 0, true), false);
        due.is("fits(0, 6)", x.fits(0, 6, true), false);
        due.is("fits(-1, 0)", x.fits(-1, 0, true), false);
        due.is("fits(0, -1)", x.fits(0, -1, true), false);
        due.is("fits(1, -6)", x.fits(1, -6, false), false);
        due.is("fits(-1, 6)", x.fits(-1, 6, false), false);
        due.is("match()", x.match(), 1);
        due.is("fits(0, 0, false)", x.fits(0, 0, false), true);
        due.is("match()", x.match(), 0);
        due.is("fits(0, 0, false)", x.fits(0, 0, false), true);
        due.is("fits(0, 0, true)", x.fits(0, 0, true), true);
        due.is("match()", x.match(), 1);
        for (int kind = 0; kind < 6; kind++) {
            for (int product = 0; product < 6; product++) {
                fitsOnly(kind, product);
            }
        }
    }

    private static void fitsOnly(int kind, int product) {
        PartShelves x = new PartShelves();
        due.is("fits", x.fits(kind, product, true), true);
        for (int i = 0; i < 6; i++) {
            x.part(i, 0, 0);
            x.ask(i, 10, 0);
        }
        due.is("match()", x.match(), 1);
        due.is("of(product)", x.of(product), kind);
    }

    private static void part() {
        due.at("promise 5");
        PartShelves x = new PartShelves();
        due.is("part(-1, 0, 0)", x.part(-1, 0, 0), NONE);
        due.is("part(6, 0, 0)", x.part(6, 0, 0), NONE);
        due.is("part(0, -1, 0)", x.part(0, -1, 0), NONE);
        due.is("part(0, 1001, 0)", x.part(0, 1001, 0), NONE);
        due.is("part(0, 0, -1)", x.part(0, 0, -1), NONE);
        due.is("part(0, 0, 10^9 + 1)", x.part(0, 0, 1000000001L), NONE);
        due.is("part(0, 0, 2^32)", x.part(0, 0, 1L << 32), NONE);
        due.is("part(0, 0, MIN)", x.part(0, 0, Long.MIN_VALUE), NONE);
        due.is("part(5, 1000, 10^9)", x.part(5, 1000, 1000000000L), 0);
        due.is("part(0, 0, 0)", x.part(0, 0, 0), 1);
        for (int i = 2; i < 8; i++) {
            due.is("part", x.part(0, 0, 0), i);
            due.is("state", x.state(i), 0);
        }
        due.is("part 9", x.part(0, 0, 0), NONE);
        due.is("state(8)", x.state(8), NONE);
    }

    private static void price() {
        due.at("promise 6");
        PartShelves x = new PartShelves();
        x.part(0, 4, 0);
        x.part(0, 5, 0);
        x.part(0, 9, 0);
        x.part(0, 1000, 0);
        due.is("price(3) without rows", x.price(3), 0);
        x.row(5, 70);
        due.is("price(3) with one row", x.price(3), 70);
        x.row(9, 100000);
        x.row(1000, 3);
        due.is("price(0)", x.price(0), 0);
        due.is("price(1)", x.price(1), 70);
        due.is("price(2)", x.price(2), 100000);
        due.is("price(3)", x.price(3), 3);
        due.is("price(4)", x.price(4), NONE);
        for (int number : NO_NUMBERS) {
            due.is("price", x.price(number), NONE);
        }
    }

    private static void state() {
        due.at("promise 7");
        PartShelves x = Scenes.oneSale();
        x.part(1, 0, 1);
        x.part(2, 0, 2);
        x.ask(3, 0, 0);
        due.is("state(0), sold", x.state(0), 2);
        due.is("state(1), free", x.state(1), 0);
        x.hold(1, 1, 12);
        due.is("state(1), held", x.state(1), 1);
        x.today(12);
        due.is("state(1) on the hold's last day", x.state(1), 1);
        x.today(13);
        due.is("state(1) behind it", x.state(1), 0);
        x.recall(2, 2, 2);
        due.is("state(2), recalled", x.state(2), 3);
        x.today(100000);
        due.is("state(0) stays sold", x.state(0), 2);
        due.is("state(2) stays recalled", x.state(2), 3);
        due.is("state(3)", x.state(3), NONE);
        for (int number : NO_NUMBERS) {
            due.is("state", x.state(number), NONE);
        }
    }

    private static void ask() {
        due.at("promise 8");
        PartShelves x = new PartShelves();
        due.is("ask(-1, 0, 0)", x.ask(-1, 0, 0), NONE);
        due.is("ask(6, 0, 0)", x.ask(6, 0, 0), NONE);
        due.is("ask(0, -1, 0)", x.ask(0, -1, 0), NONE);
        due.is("ask(0, 10^6 + 1, 0)", x.ask(0, 1000001, 0), NONE);
        due.is("ask(0, 2^32, 0)", x.ask(0, 1L << 32, 0), NONE);
        due.is("ask(0, 0, -1)", x.ask(0, 0, -1), NONE);
        due.is("ask(0, 0, 10^9 + 1)", x.ask(0, 0, 1000000001L), NONE);
        due.is("ask(0, 0, 2^32)", x.ask(0, 0, 1L << 32), NONE);
        due.is("ask(5, 10^6, 10^9)", x.ask(5, 1000000, 1000000000L), 0);
        for (int i = 1; i < 8; i++) {
            due.is("ask", x.ask(0, 0, 0), i);
        }
        due.is("ask 9", x.ask(0, 0, 0), NONE);
    }

    private static void hold() {
        due.at("promise 9");
        PartShelves x = Scenes.onePair();
        x.today(10);
        for (int number : NO_NUMBERS) {
            due.is("hold of no part", x.hold(number, 0, 20), false);
            due.is("hold for no ask", x.hold(0, number, 20), false);
            due.is("hold up to no day", x.hold(0, 0, number), false);
        }
        due.is("hold(1, 0, 20)", x.hold(1, 0, 20), false);
        due.is("hold(0, 1, 20)", x.hold(0, 1, 20), false);
        due.is("hold(0, 0, 9)", x.hold(0, 0, 9), false);
        due.is("hold(0, 0, 100001)", x.hold(0, 0, 100001), false);
        due.is("state(0)", x.state(0), 0);
        due.is("hold(0, 0, 10)", x.hold(0, 0, 10), true);
        due.is("hold(0, 0, 10) again", x.hold(0, 0, 10), false);
        x.today(11);
        due.is("hold(0, 0, 100000) when the first has ended", x.hold(0, 0, 100000), true);
        x.today(100000);
        due.is("state(0)", x.state(0), 1);

        PartShelves sold = Scenes.oneSale();
        sold.part(0, 0, 0);
        sold.part(1, 0, 0);
        sold.ask(0, 0, 0);
        due.is("hold of a sold part", sold.hold(0, 1, 20), false);
        due.is("hold for a served ask", sold.hold(1, 0, 20), false);
        sold.recall(1, 0, 0);
        due.is("hold of a recalled part", sold.hold(2, 1, 20), false);
        due.is("hold of a part that does not fit", sold.hold(1, 1, 20), true);
    }

    private static void match() {
        due.at("promise 10");
        due.is("match() of nothing", new PartShelves().match(), 0);

        PartShelves edge = new PartShelves();
        edge.row(0, 50);
        edge.fits(0, 0, true);
        edge.part(0, 0, 0);
        edge.ask(0, 49, 0);
        due.is("match() with one cent less than the price", edge.match(), 0);
        edge.ask(0, 50, 0);
        due.is("match() with the price itself", edge.match(), 1);
        due.is("worth()", edge.worth(), 0);
        due.is("of(1)", edge.of(1), 0);

        PartShelves held = Scenes.onePair();
        held.ask(0, 200, 5);
        held.hold(0, 0, 3);
        due.is("match() of a held part", held.match(), 1);
        due.is("of(0), for which it is held", held.of(0), 0);
        due.is("worth()", held.worth(), 100);
        held.today(4);
        due.is("match() behind the hold", held.match(), 1);
        due.is("of(1)", held.of(1), 0);
        due.is("worth()", held.worth(), 200);

        PartShelves sold = Scenes.oneSale();
        sold.ask(0, 100, 0);
        due.is("match() of a sold part", sold.match(), 0);
        sold.part(0, 0, 1);
        sold.recall(0, 1, 1);
        due.is("match() of a recalled part", sold.match(), 0);
        sold.part(0, 0, 2);
        due.is("match() of a free part", sold.match(), 1);
        due.is("of(0), served", sold.of(0), NONE);
        due.is("of(1)", sold.of(1), 2);

        PartShelves greedy = new PartShelves();
        greedy.row(0, 10);
        greedy.row(5, 0);
        greedy.fits(0, 0, true);
        greedy.fits(0, 1, true);
        greedy.fits(1, 0, true);
        greedy.part(0, 5, 0);
        greedy.part(1, 0, 0);
        greedy.ask(0, 100, 0);
        greedy.ask(1, 95, 0);
        due.is("match() that is not greedy", greedy.match(), 2);
        due.is("worth()", greedy.worth(), 185);
        due.is("of(0)", greedy.of(0), 1);
        due.is("of(1)", greedy.of(1), 0);
    }

    private static void matchTakesTheFirstOfEqualOnes() {
        due.at("promise 10, equal worths");
        PartShelves x = new PartShelves();
        x.fits(0, 0, true);
        x.part(0, 0, 0);
        x.ask(0, 10, 8);
        x.ask(0, 10, 7);
        x.ask(0, 10, 7);
        due.is("match()", x.match(), 1);
        due.is("of(1), of the first minute and the lesser number", x.of(1), 0);

        PartShelves zero = new PartShelves();
        zero.row(0, 10);
        zero.fits(0, 0, true);
        zero.part(0, 0, 0);
        zero.part(0, 0, 0);
        zero.ask(0, 10, 1);
        zero.ask(0, 10, 0);
        due.is("match() of worthless pairs", zero.match(), 2);
        due.is("worth()", zero.worth(), 0);
        due.is("of(1)", zero.of(1), 0);
        due.is("of(0)", zero.of(0), 1);

        PartShelves few = new PartShelves();
        few.row(0, 10);
        few.fits(0, 0, true);
        few.fits(0, 1, true);
        few.fits(1, 1, true);
        few.part(1, 0, 0);
        few.part(0, 0, 0);
        few.ask(0, 10, 5);
        few.ask(1, 10, 4);
        due.is("match()", few.match(), 2);
        due.is("of(1), the lesser part", few.of(1), 0);
        few.fits(1, 1, false);
        due.is("match(): first before many", few.match(), 1);
        due.is("of(1)", few.of(1), 1);
        due.is("of(0)", few.of(0), NONE);
    }

    private static void of() {
        due.at("promise 11");
        PartShelves x = Scenes.onePair();
        due.is("of(0) before a match", x.of(0), NONE);
        x.match();
        x.ask(0, 500, 0);
        due.is("of(0)", x.of(0), 0);
        due.is("of(1), an ask that came later", x.of(1), NONE);
        due.is("of(8)", x.of(8), NONE);
        for (int number : NO_NUMBERS) {
            due.is("of", x.of(number), NONE);
        }
        x.fits(0, 0, false);
        x.recall(0, 0, 100);
        due.is("of(0) stays until the next match", x.of(0), 0);
        x.match();
        due.is("of(0)", x.of(0), NONE);

        PartShelves sold = Scenes.oneSale();
        due.is("of(0) when it was served", sold.of(0), 0);
    }

    private static void worth() {
        due.at("promise 12");
        PartShelves x = Scenes.onePair();
        due.is("worth() before a match", x.worth(), NONE);
        x.match();
        due.is("worth()", x.worth(), 100);
        x.row(0, 30);
        x.serve(0, 0);
        due.is("worth() stays until the next match", x.worth(), 100);
        x.match();
        due.is("worth()", x.worth(), 0);

        PartShelves most = new PartShelves();
        most.fits(5, 5, true);
        for (int i = 0; i < 8; i++) {
            most.part(5, 0, 0);
            most.ask(5, 1000000, 1000000000L);
        }
        due.is("match()", most.match(), 8);
        due.is("worth() at its most", most.worth(), 8000000);
        for (int i = 0; i < 8; i++) {
            due.is("of", most.of(i), i);
            due.is("gain of a part", most.gain(0, i), 1000000);
            due.is("gain of an ask", most.gain(1, i), 1000000);
        }
    }

    private static void gain() {
        due.at("promise 13");
        PartShelves x = new PartShelves();
        x.row(0, 40);
        x.row(1, 10);
        x.fits(0, 0, true);
        x.part(0, 0, 0);
        x.part(0, 1, 0);
        x.ask(0, 100, 0);
        x.ask(0, 45, 0);
        x.ask(0, 5, 0);
        due.is("gain(0, 0) before a match", x.gain(0, 0), NONE);
        due.is("gain(1, 0) before a match", x.gain(1, 0), NONE);
        x.match();
        due.is("worth()", x.worth(), 95);
        due.is("gain(0, 0)", x.gain(0, 0), 5);
        due.is("gain(0, 1)", x.gain(0, 1), 35);
        due.is("gain(1, 0)", x.gain(1, 0), 60);
        due.is("gain(1, 1)", x.gain(1, 1), 5);
        due.is("gain(1, 2)", x.gain(1, 2), 0);
        due.is("gain(0, 2)", x.gain(0, 2), NONE);
        due.is("gain(1, 3)", x.gain(1, 3), NONE);
        due.is("gain(2, 0)", x.gain(2, 0), NONE);
        due.is("gain(-1, 0)", x.gain(-1, 0), NONE);
        for (int number : NO_NUMBERS) {
            due.is("gain of no part", x.gain(0, number), NONE);
            due.is("gain of no ask", x.gain(1, number), NONE);
        }
        x.part(0, 1, 0);
        x.ask(0, 1000, 0);
        x.fits(0, 0, false);
        due.is("gain(0, 1) as things were", x.gain(0, 1), 35);
        due.is("gain(0, 2), a part that came later", x.gain(0, 2), NONE);
        due.is("gain(1, 3), an ask that came later", x.gain(1, 3), NONE);
        x.match();
        due.is("gain(0, 2)", x.gain(0, 2), 0);
        due.is("gain(1, 3)", x.gain(1, 3), 0);
    }

    private static void serve() {
        due.at("promise 14");
        PartShelves x = Scenes.onePair();
        x.ask(1, 100, 0);
        due.is("serve(0, 0) before a match", x.serve(0, 0), NONE);
        x.match();
        due.is("serve(0, -1)", x.serve(0, -1), NONE);
        due.is("serve(0, 10)", x.serve(0, 10), NONE);
        due.is("serve(1, 0), which has no part", x.serve(1, 0), NONE);
        due.is("serve(2, 0)", x.serve(2, 0), NONE);
        for (int number : NO_NUMBERS) {
            due.is("serve of no ask", x.serve(number, 0), NONE);
        }
        due.is("state(0)", x.state(0), 0);
        due.is("serve(0, 9)", x.serve(0, 9), 0);
        due.is("state(0)", x.state(0), 2);
        due.is("returned(0)", x.returned(0), true);
        due.is("serve(0, 9) of a served ask", x.serve(0, 9), NONE);
        due.is("match()", x.match(), 0);
        due.is("hold(0, 0, 5) for a served ask", x.hold(0, 0, 5), false);
    }

    private static void serveNeedsAPairStill() {
        due.at("promise 14, a pair still");
        PartShelves x = Scenes.onePair();
        x.ask(0, 5, 0);
        x.match();
        x.fits(0, 0, false);
        due.is("serve when it fits no more", x.serve(0, 1), NONE);
        x.fits(0, 0, true);
        x.hold(0, 1, 3);
        due.is("serve when it is held for another", x.serve(0, 1), NONE);
        x.today(4);
        x.hold(0, 0, 4);
        due.is("serve when it is held for this ask", x.serve(0, 1), 0);

        PartShelves dear = Scenes.onePair();
        dear.match();
        dear.row(0, 101);
        due.is("serve when it is too dear", dear.serve(0, 1), NONE);
        due.is("state(0)", dear.state(0), 0);

        PartShelves recalled = Scenes.onePair();
        recalled.match();
        recalled.recall(0, 50, 50);
        due.is("serve when it is recalled", recalled.serve(0, 1), NONE);
        due.is("state(0)", recalled.state(0), 3);

        PartShelves later = Scenes.onePair();
        later.hold(0, 0, 3);
        later.match();
        later.today(9);
        due.is("serve when the hold has ended", later.serve(0, 1), 0);
    }

    private static void job() {
        due.at("promise 15");
        PartShelves x = new PartShelves();
        for (int i = 0; i < 6; i++) {
            due.is("job()", x.job(), i);
        }
        due.is("job() 7", x.job(), NONE);
        due.is("plan()", x.plan(), 6);
    }

    private static void needs() {
        due.at("promise 16");
        PartShelves x = new PartShelves();
        due.is("needs(0, 0, 1) before a job", x.needs(0, 0, 1), false);
        x.job();
        due.is("needs(1, 0, 1)", x.needs(1, 0, 1), false);
        due.is("needs(0, 6, 1)", x.needs(0, 6, 1), false);
        due.is("needs(0, -1, 1)", x.needs(0, -1, 1), false);
        due.is("needs(0, 0, 4)", x.needs(0, 0, 4), false);
        due.is("needs(0, 0, -1)", x.needs(0, 0, -1), false);
        for (int number : NO_NUMBERS) {
            due.is("needs of no job", x.needs(number, 0, 1), false);
            due.is("needs of no kind", x.needs(0, number, 1), false);
            due.is("needs of no number", x.needs(0, 0, number), false);
        }
        due.is("plan() with no needs", x.plan(), 1);
        due.is("needs(0, 5, 3)", x.needs(0, 5, 3), true);
        due.is("plan()", x.plan(), 0);
        x.part(5, 0, 0);
        x.part(5, 0, 0);
        due.is("plan() with 2 of 3", x.plan(), 0);
        due.is("needs(0, 5, 2) in place of 3", x.needs(0, 5, 2), true);
        due.is("plan() with 2 of 2", x.plan(), 1);
        due.is("needs(0, 0, 1)", x.needs(0, 0, 1), true);
        due.is("plan()", x.plan(), 0);
        due.is("needs(0, 0, 0)", x.needs(0, 0, 0), true);
        due.is("plan()", x.plan(), 1);
    }

    private static void plan() {
        due.at("promise 17");
        due.is("plan() of nothing", new PartShelves().plan(), 0);

        PartShelves x = Scenes.onePair();
        x.job();
        x.needs(0, 0, 1);
        due.is("plan() with a free part", x.plan(), 1);
        x.hold(0, 0, 3);
        due.is("plan() with a held part", x.plan(), 0);
        x.today(4);
        due.is("plan() behind the hold", x.plan(), 1);
        x.match();
        x.serve(0, 1);
        due.is("plan() with a sold part", x.plan(), 0);
        x.returned(0);
        due.is("plan() with a part that came back", x.plan(), 1);
        x.recall(0, 0, 100);
        due.is("plan() with a recalled part", x.plan(), 0);
        due.is("does(0)", x.does(0), false);
        due.is("cost()", x.cost(), 0);
    }

    private static void planChoosesAmongEquals() {
        due.at("promise 17, of equal ones");
        PartShelves x = new PartShelves();
        x.row(0, 50);
        x.row(1, 20);
        x.row(2, 10);
        x.part(0, 0, 0);
        x.part(0, 2, 0);
        x.part(0, 1, 0);
        for (int i = 0; i < 3; i++) {
            x.job();
        }
        x.needs(0, 0, 3);
        x.needs(1, 0, 1);
        x.needs(2, 0, 1);
        due.is("plan() does the most", x.plan(), 2);
        due.is("cost() of the cheapest parts", x.cost(), 30);
        due.is("does(0)", x.does(0), false);
        due.is("does(1)", x.does(1), true);
        due.is("does(2)", x.does(2), true);

        PartShelves cheap = new PartShelves();
        cheap.row(0, 50);
        cheap.row(1, 20);
        cheap.part(0, 0, 0);
        cheap.part(0, 1, 0);
        cheap.job();
        cheap.job();
        cheap.job();
        cheap.needs(0, 0, 2);
        cheap.needs(1, 0, 1);
        cheap.needs(2, 0, 2);
        due.is("plan()", cheap.plan(), 1);
        due.is("cost() is least", cheap.cost(), 20);
        due.is("does(1)", cheap.does(1), true);
        cheap.needs(1, 0, 2);
        due.is("plan()", cheap.plan(), 1);
        due.is("cost()", cheap.cost(), 70);
        due.is("does(0), the least sum", cheap.does(0), true);
        due.is("does(1)", cheap.does(1), false);
        due.is("does(2)", cheap.does(2), false);
    }

    private static void cost() {
        due.at("promise 18");
        PartShelves x = new PartShelves();
        due.is("cost() before a plan", x.cost(), NONE);
        x.plan();
        due.is("cost() of no jobs", x.cost(), 0);
        x.row(0, 100000);
        for (int i = 0; i < 8; i++) {
            x.part(1, 0, 0);
        }
        for (int i = 0; i < 3; i++) {
            x.job();
            x.needs(i, 1, i == 2 ? 2 : 3);
        }
        due.is("cost() stays until the next plan", x.cost(), 0);
        due.is("plan()", x.plan(), 3);
        due.is("cost() at its most", x.cost(), 800000);
        x.recall(1, 0, 0);
        due.is("cost() stays", x.cost(), 800000);
    }

    private static void does() {
        due.at("promise 19");
        PartShelves x = new PartShelves();
        x.job();
        due.is("does(0) before a plan", x.does(0), false);
        x.plan();
        x.job();
        x.needs(0, 0, 1);
        due.is("does(0) stays until the next plan", x.does(0), true);
        due.is("does(1), a job that came later", x.does(1), false);
        due.is("does(6)", x.does(6), false);
        due.is("does(32)", x.does(32), false);
        due.is("does(-32)", x.does(-32), false);
        for (int number : NO_NUMBERS) {
            due.is("does", x.does(number), false);
        }
        x.plan();
        due.is("does(0)", x.does(0), false);
        due.is("does(1)", x.does(1), true);
        due.is("does(33)", x.does(33), false);
    }

    private static void warranty() {
        due.at("promise 20");
        PartShelves x = Scenes.oneSale();
        due.is("warranty(-1, 5)", x.warranty(-1, 5), false);
        due.is("warranty(6, 5)", x.warranty(6, 5), false);
        due.is("warranty(0, -1)", x.warranty(0, -1), false);
        due.is("warranty(0, 1001)", x.warranty(0, 1001), false);
        due.is("warranty(5, 1000)", x.warranty(5, 1000), true);
        due.is("warranty(0, 1000)", x.warranty(0, 1000), true);
        due.is("warranty(0, 0)", x.warranty(0, 0), true);
        x.today(11);
        due.is("returned(0)", x.returned(0), false);
        due.is("warranty(0, 1)", x.warranty(0, 1), true);
        due.is("returned(0)", x.returned(0), true);
    }

    private static void returned() {
        due.at("promise 21");
        PartShelves same = Scenes.oneSale();
        due.is("returned(0) on the day of the sale", same.returned(0), true);
        due.is("state(0)", same.state(0), 0);
        due.is("returned(0) of a free part", same.returned(0), false);

        PartShelves next = Scenes.oneSale();
        next.today(11);
        due.is("returned(0) without a warranty", next.returned(0), false);
        due.is("state(0)", next.state(0), 2);

        PartShelves last = Scenes.oneSale();
        last.warranty(0, 5);
        last.warranty(1, 1000);
        last.today(15);
        due.is("returned(0) on the last day", last.returned(0), true);

        PartShelves behind = Scenes.oneSale();
        behind.warranty(0, 5);
        behind.today(16);
        due.is("returned(0) a day behind", behind.returned(0), false);
        due.is("returned(1)", behind.returned(1), false);
        for (int number : NO_NUMBERS) {
            due.is("returned", behind.returned(number), false);
        }

        PartShelves other = Scenes.onePair();
        other.hold(0, 0, 5);
        due.is("returned(0) of a held part", other.returned(0), false);
        due.is("state(0)", other.state(0), 1);
        other.recall(0, 0, 100);
        due.is("returned(0) of a recalled part", other.returned(0), false);
        due.is("state(0)", other.state(0), 3);

        PartShelves told = Scenes.oneSale();
        due.is("recall(0, 0, 100)", told.recall(0, 0, 100), 1);
        due.is("returned(0) of a part told as sold", told.returned(0), true);
        due.is("state(0)", told.state(0), 0);
    }

    private static void recall() {
        due.at("promise 22");
        PartShelves x = new PartShelves();
        x.part(0, 0, 10);
        x.part(0, 0, 11);
        x.part(0, 0, 12);
        x.part(1, 0, 11);
        x.part(0, 0, 13);
        x.ask(0, 0, 0);
        x.hold(1, 0, 5);
        due.is("recall(-1)", x.recall(-1, 0, 100), NONE);
        due.is("recall(6)", x.recall(6, 0, 100), NONE);
        due.is("recall(0, 12, 11)", x.recall(0, 12, 11), 0);
        due.is("recall(0, 11, 12)", x.recall(0, 11, 12), 0);
        due.is("state(0)", x.state(0), 0);
        due.is("state(1), which was held", x.state(1), 3);
        due.is("state(2)", x.state(2), 3);
        due.is("state(3), of another kind", x.state(3), 0);
        due.is("state(4)", x.state(4), 0);
        x.today(6);
        due.is("state(1) behind the hold", x.state(1), 3);
        due.is("recall(0, MIN, MAX)", x.recall(0, Long.MIN_VALUE, Long.MAX_VALUE), 0);
        due.is("state(0)", x.state(0), 3);
        due.is("state(4)", x.state(4), 3);

        PartShelves sold = Scenes.oneSale();
        sold.part(0, 0, 50);
        due.is("recall(0, 50, 50)", sold.recall(0, 50, 50), 1);
        due.is("state(0), sold", sold.state(0), 2);
        due.is("state(1), free", sold.state(1), 3);
        due.is("recall(0, 51, 60)", sold.recall(0, 51, 60), 0);
        due.is("recall(0, 40, 49)", sold.recall(0, 40, 49), 0);
        due.is("recall(1, 50, 50)", sold.recall(1, 50, 50), 0);
    }

    private static void recalled() {
        due.at("promise 23");
        PartShelves x = new PartShelves();
        x.fits(0, 0, true);
        for (int i = 0; i < 4; i++) {
            x.part(0, 0, i);
            x.ask(0, 10, i);
        }
        x.match();
        x.serve(3, 0);
        x.serve(1, 9);
        x.serve(0, 4);
        due.is("recalled(0) before a recall", x.recalled(0), NONE);
        due.is("recall(0, 1, 3)", x.recall(0, 1, 3), 2);
        due.is("recalled(0)", x.recalled(0), 19);
        due.is("recalled(1)", x.recalled(1), 30);
        due.is("recalled(2)", x.recalled(2), NONE);
        for (int number : NO_NUMBERS) {
            due.is("recalled", x.recalled(number), NONE);
        }
        due.is("recall of no kind", x.recall(6, 0, 0), NONE);
        x.returned(1);
        due.is("recalled(0) as it was then", x.recalled(0), 19);
        due.is("recall(0, 0, 1)", x.recall(0, 0, 1), 1);
        due.is("recalled(0)", x.recalled(0), 4);
        due.is("recalled(1)", x.recalled(1), NONE);
        due.is("state(1), which came back", x.state(1), 3);
        due.is("recall(5, 0, 9)", x.recall(5, 0, 9), 0);
        due.is("recalled(0)", x.recalled(0), NONE);
    }

    private static void lend() {
        due.at("promise 24");
        PartShelves x = new PartShelves();
        x.today(10);
        due.is("lend(-1, 0, 20)", x.lend(-1, 0, 20), false);
        due.is("lend(4, 0, 20)", x.lend(4, 0, 20), false);
        due.is("lend(0, -1, 20)", x.lend(0, -1, 20), false);
        due.is("lend(0, 10, 20)", x.lend(0, 10, 20), false);
        due.is("lend(0, 0, 9)", x.lend(0, 0, 9), false);
        due.is("lend(0, 0, 100001)", x.lend(0, 0, 100001), false);
        due.is("back(0)", x.back(0), NONE);
        due.is("lend(0, 0, 10)", x.lend(0, 0, 10), true);
        due.is("lend(0, 1, 20), lent", x.lend(0, 1, 20), false);
        due.is("lend(3, 9, 100000)", x.lend(3, 9, 100000), true);
        x.today(50);
        due.is("lend(0, 1, 60), lent still", x.lend(0, 1, 60), false);
        due.is("back(0)", x.back(0), 0);
        due.is("lend(0, 1, 60)", x.lend(0, 1, 60), true);
        due.is("back(0)", x.back(0), 1);
    }

    private static void back() {
        due.at("promise 25");
        PartShelves x = new PartShelves();
        for (int tool = 0; tool < 4; tool++) {
            x.lend(tool, 9 - tool, tool);
        }
        due.is("back(-1)", x.back(-1), NONE);
        due.is("back(4)", x.back(4), NONE);
        for (int number : NO_NUMBERS) {
            due.is("back", x.back(number), NONE);
        }
        for (int tool = 0; tool < 4; tool++) {
            due.is("back", x.back(tool), 9 - tool);
            due.is("back again", x.back(tool), NONE);
        }
    }

    private static void late() {
        due.at("promise 26");
        PartShelves x = new PartShelves();
        x.lend(3, 0, 5);
        x.lend(1, 1, 6);
        x.lend(0, 1, 90);
        x.today(5);
        due.is("late(0) on the last day", x.late(0), NONE);
        x.today(6);
        due.is("late(0)", x.late(0), 3);
        due.is("late(1)", x.late(1), NONE);
        x.today(7);
        due.is("late(0)", x.late(0), 1);
        due.is("late(1)", x.late(1), 3);
        due.is("late(2)", x.late(2), NONE);
        for (int number : NO_NUMBERS) {
            due.is("late", x.late(number), NONE);
        }
        x.back(1);
        due.is("late(0) when one is back", x.late(0), 3);
        due.is("late(1)", x.late(1), NONE);
        x.today(91);
        due.is("late(0), the first tool", x.late(0), 0);
        due.is("late(1)", x.late(1), 3);
        due.is("late(2)", x.late(2), NONE);
    }
}
