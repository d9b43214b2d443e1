import java.util.function.Supplier;

/** The face as a whole: how long an object is used, and that no call of it ever throws. */
final class FaceBoundaries {
    private static final int[] INTS = {Integer.MIN_VALUE, Integer.MIN_VALUE + 1, -65536, -256, -33, -32, -9, -7, -6,
        -1, 0, 1, 2, 3, 4, 5, 6, 7, 8, 9, 10, 31, 32, 33, 63, 64, 255, 256, 1000, 1001, 65536, 100000, 100001,
        Integer.MAX_VALUE - 1, Integer.MAX_VALUE};
    private static final long[] LONGS = {Long.MIN_VALUE, -(1L << 32), Integer.MIN_VALUE, -1, 0, 1, 1000000L,
        1000001L, 1000000000L, 1000000001L, Integer.MAX_VALUE, 1L << 32, Long.MAX_VALUE};

    private final Sentences told;
    private final Due due;

    FaceBoundaries(Sentences told, Due due) {
        this.told = told;
        this.due = due;
    }

    void test() {
        told.in("What it is");
        told.test("An object is used for at most 512 calls after it has been made", this::theLastCallsAreAsDue);

        told.in("The public face");
        told.test("public static final int NONE = -1;", () -> due.is("NONE", PartShelves.NONE, -1));
        told.test("public final class PartShelves {", () -> {
            throwsNothing(PartShelves::new);
            throwsNothing(Scenes::mixed);
            throwsNothing(Scenes::full);
        });
    }

    private void theLastCallsAreAsDue() {
        PartShelves x = Scenes.alike(8, 8, 1000000);
        int calls = 1 + 8 + 8;
        while (calls < 510) {
            due.is("match()", x.match(), 8);
            calls++;
        }
        due.is("call 511, worth()", x.worth(), 8000000);
        due.is("call 512, gain(1, 7)", x.gain(1, 7), 1000000);
    }

    /** The document names no exception: whatever a call gets, it answers. */
    private void throwsNothing(Supplier<PartShelves> scene) {
        for (int a : INTS) {
            oneNumber(scene.get(), a);
            for (int b : INTS) {
                twoNumbers(scene.get(), a, b);
                for (int c : INTS) {
                    threeNumbers(scene.get(), a, b, c);
                }
                for (long c : LONGS) {
                    scene.get().part(a, b, c);
                }
            }
            for (long b : LONGS) {
                scene.get().row(a, b);
                for (long c : LONGS) {
                    PartShelves x = scene.get();
                    x.ask(a, b, c);
                    x.recall(a, b, c);
                    findAll(x);
                }
            }
        }
    }

    private void oneNumber(PartShelves x, int a) {
        x.price(a);
        x.state(a);
        x.of(a);
        x.does(a);
        x.returned(a);
        x.recalled(a);
        x.late(a);
        x.back(a);
        x.today(a);
        findAll(x);
    }

    private void twoNumbers(PartShelves x, int a, int b) {
        x.gain(a, b);
        x.serve(a, b);
        x.warranty(a, b);
        x.fits(a, b, true);
        x.fits(b, a, false);
    }

    private void threeNumbers(PartShelves x, int a, int b, int c) {
        x.hold(a, b, c);
        x.needs(a, b, c);
        x.lend(a, b, c);
    }

    private void findAll(PartShelves x) {
        x.job();
        x.match();
        x.plan();
        x.worth();
        x.cost();
    }
}
