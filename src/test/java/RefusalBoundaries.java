import java.util.ArrayList;
import java.util.List;
import java.util.function.Supplier;
import java.util.function.ToLongFunction;

/** Refused calls of every kind: each is made on an object that is then compared with one that never got it. */
final class RefusalBoundaries {
    private static final int NONE = PartShelves.NONE;
    private static final int DAY = Scenes.DAY;

    private interface Refusing {
        boolean call(PartShelves x);
    }

    private record Refused(String call, long answer, ToLongFunction<PartShelves> made) {
    }

    private final Sentences told;
    private final Due due;
    private List<Refused> refused = new ArrayList<>();

    RefusalBoundaries(Sentences told, Due due) {
        this.told = told;
        this.due = due;
    }

    void test() {
        told.in("Terms");
        told.test("A call that is refused changes nothing.", () -> {
            wrongNumbers();
            changeNothing(PartShelves::new);
            wrongNumbers();
            wrongForMixed();
            changeNothing(Scenes::mixed);
            wrongNumbers();
            wrongForFull();
            changeNothing(Scenes::full);
        });
    }

    private void changeNothing(Supplier<PartShelves> scene) {
        List<Long> untouched = Scenes.look(scene.get());
        for (Refused one : refused) {
            PartShelves x = scene.get();
            due.is(one.call, one.made.applyAsLong(x), one.answer);
            due.is("what is told behind " + one.call + " is as before", Scenes.look(x).equals(untouched), true);
        }
        refused = new ArrayList<>();
    }

    private void number(String call, ToLongFunction<PartShelves> made) {
        refused.add(new Refused(call, NONE, made));
    }

    private void truth(String call, Refusing made) {
        refused.add(new Refused(call, 0, x -> made.call(x) ? 1 : 0));
    }

    /** What no object takes. */
    private void wrongNumbers() {
        for (int day : Scenes.outside(0, 100000)) {
            truth("today(" + day + ")", x -> x.today(day));
            truth("hold(4, 0, " + day + ")", x -> x.hold(4, 0, day));
            truth("lend(1, 1, " + day + ")", x -> x.lend(1, 1, day));
        }
        for (int age : Scenes.outside(0, 1000)) {
            truth("row(" + age + ", 1)", x -> x.row(age, 1));
            number("part(0, " + age + ", 1)", x -> x.part(0, age, 1));
        }
        for (int number : Scenes.outside(0, 5)) {
            wrongKind(number);
            number("ask(" + number + ", 1, 1)", x -> x.ask(number, 1, 1));
            truth("needs(" + number + ", 0, 1)", x -> x.needs(number, 0, 1));
            truth("fits(0, " + number + ", true)", x -> x.fits(0, number, true));
            truth("fits(0, " + number + ", false)", x -> x.fits(0, number, false));
        }
        for (int number : Scenes.outside(0, 7)) {
            truth("hold(" + number + ", 0, 50)", x -> x.hold(number, 0, 50));
            truth("hold(4, " + number + ", 50)", x -> x.hold(4, number, 50));
            truth("returned(" + number + ")", x -> x.returned(number));
            number("serve(" + number + ", 1)", x -> x.serve(number, 1));
        }
        for (int person : Scenes.outside(0, 9)) {
            number("serve(0, " + person + ")", x -> x.serve(0, person));
            truth("lend(1, " + person + ", 50)", x -> x.lend(1, person, 50));
        }
        for (int tool : Scenes.outside(0, 3)) {
            truth("lend(" + tool + ", 1, 50)", x -> x.lend(tool, 1, 50));
            number("back(" + tool + ")", x -> x.back(tool));
            truth("needs(0, 0, " + tool + ")", x -> x.needs(0, 0, tool));
        }
        wrongAmounts();
    }

    private void wrongKind(int kind) {
        truth("fits(" + kind + ", 0, true)", x -> x.fits(kind, 0, true));
        truth("fits(" + kind + ", 0, false)", x -> x.fits(kind, 0, false));
        number("part(" + kind + ", 0, 1)", x -> x.part(kind, 0, 1));
        truth("needs(0, " + kind + ", 1)", x -> x.needs(0, kind, 1));
        truth("warranty(" + kind + ", 5)", x -> x.warranty(kind, 5));
        number("recall(" + kind + ", 0, 1000)", x -> x.recall(kind, 0, 1000));
    }

    private void wrongAmounts() {
        for (long cents : Scenes.outside(0L, 100000L)) {
            truth("row(999, " + cents + ")", x -> x.row(999, cents));
        }
        for (long cents : Scenes.outside(0L, 1000000L)) {
            number("ask(0, " + cents + ", 1)", x -> x.ask(0, cents, 1));
        }
        for (long number : Scenes.outside(0L, 1000000000L)) {
            number("part(0, 0, " + number + ")", x -> x.part(0, 0, number));
            number("ask(0, 1, " + number + ")", x -> x.ask(0, 1, number));
        }
        for (int days : Scenes.outside(0, 1000)) {
            truth("warranty(0, " + days + ")", x -> x.warranty(0, days));
        }
    }

    /** What the mixed scene does not take, as things stand there. */
    private void wrongForMixed() {
        truth("today() of yesterday", x -> x.today(DAY - 1));
        truth("row() of the age of the row before", x -> x.row(9, 7));
        truth("row() of a lesser age", x -> x.row(8, 7));
        truth("hold() of a held part", x -> x.hold(1, 3, 50));
        truth("hold() of a held part for its ask", x -> x.hold(1, 0, 50));
        truth("hold() of a sold part", x -> x.hold(0, 0, 50));
        truth("hold() of a recalled part", x -> x.hold(3, 3, 50));
        truth("hold() of a part that is not there", x -> x.hold(6, 0, 50));
        truth("hold() for a served ask", x -> x.hold(4, 1, 50));
        truth("hold() for an ask that is not there", x -> x.hold(4, 6, 50));
        truth("hold() up to yesterday", x -> x.hold(4, 0, DAY - 1));
        number("serve() of a served ask", x -> x.serve(1, 1));
        number("serve() of an ask without a part", x -> x.serve(4, 1));
        number("serve() of an ask whose part is recalled", x -> x.serve(3, 1));
        number("serve() of an ask that is not there", x -> x.serve(6, 1));
        truth("needs() of a job that is not there", x -> x.needs(3, 0, 1));
        truth("returned() behind the warranty", x -> x.returned(0));
        truth("returned() of a held part", x -> x.returned(1));
        truth("returned() of a recalled part", x -> x.returned(3));
        truth("returned() of a free part", x -> x.returned(4));
        truth("returned() of a part that is not there", x -> x.returned(6));
        truth("lend() of a late tool", x -> x.lend(0, 5, 50));
        truth("lend() of a lent tool to who has it", x -> x.lend(2, 2, 60));
        truth("lend() up to yesterday", x -> x.lend(1, 5, DAY - 1));
        number("back() of a tool that is not lent", x -> x.back(1));
    }

    private void wrongForFull() {
        truth("row() 7", x -> x.row(1000, 7));
        number("part() 9", x -> x.part(0, 0, 0));
        number("ask() 9", x -> x.ask(0, 500, 0));
        number("job() 7", x -> x.job());
        for (int tool = 0; tool < 4; tool++) {
            int lent = tool;
            truth("lend() of lent tool " + lent, x -> x.lend(lent, 9, 90));
        }
    }
}
