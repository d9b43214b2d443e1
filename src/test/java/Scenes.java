import java.util.ArrayList;
import java.util.Arrays;
import java.util.List;

/** Objects in the states that tests begin with, numbers outside a range, and a look at all that an object tells. */
final class Scenes {
    static final int FREE = 0;
    static final int HELD = 1;
    static final int SOLD = 2;
    static final int RECALLED = 3;

    /** The day of mixed() and of full(). */
    static final int DAY = 20;

    private Scenes() {
    }

    /** Just outside, far outside, and what would be inside if its upper bits were cut off. */
    static int[] outside(int first, int last) {
        int[] some = {first - 1, last + 1, first - 256, first + 256, first + 65536, last + 65536,
            Integer.MIN_VALUE, Integer.MIN_VALUE + first, Integer.MAX_VALUE};
        return Arrays.stream(some).filter(value -> value < first || value > last).toArray();
    }

    static long[] outside(long first, long last) {
        long[] some = {first - 1, last + 1, first - (1L << 32), first + (1L << 32), last + (1L << 32),
            Integer.MIN_VALUE, Long.MIN_VALUE, Long.MIN_VALUE + first, Long.MAX_VALUE};
        return Arrays.stream(some).filter(value -> value < first || value > last).toArray();
    }

    /** Part 0 of kind 0 with the serial 50, which costs nothing, and ask 0 of 100 cents for product 0, which fit. */
    static PartShelves onePair() {
        PartShelves x = new PartShelves();
        x.fits(0, 0, true);
        x.part(0, 0, 50);
        x.ask(0, 100, 0);
        return x;
    }

    /** The one pair, sold to person 7 on day 10. */
    static PartShelves oneSale() {
        return oneSaleOf(0);
    }

    /** The same with a part of another kind. */
    static PartShelves oneSaleOf(int kind) {
        PartShelves x = new PartShelves();
        x.fits(kind, 0, true);
        x.part(kind, 0, 50);
        x.ask(0, 100, 0);
        x.today(10);
        x.match();
        x.serve(0, 7);
        return x;
    }

    /** So many parts of kind 0 and so many asks for product 0, which fit; each pair is worth so many cents. */
    static PartShelves alike(int parts, int asks, long worth) {
        PartShelves x = new PartShelves();
        x.fits(0, 0, true);
        for (int p = 0; p < parts; p++) {
            x.part(0, 0, p);
        }
        for (int a = 0; a < asks; a++) {
            x.ask(0, worth, 0);
        }
        return x;
    }

    /** A part of kind k for each kind, and an ask of 100 cents for each product; nothing fits. */
    static PartShelves oneOfEach() {
        PartShelves x = new PartShelves();
        for (int i = 0; i < 6; i++) {
            x.part(i, 0, i);
            x.ask(i, 100, i);
        }
        return x;
    }

    /** On day 11: part 0 is free, 1 held for ask 0 up to day 15, 2 sold to person 7 on day 10, 3 recalled. */
    static PartShelves oneOfEachState() {
        PartShelves x = alike(4, 2, 100);
        x.today(10);
        x.hold(0, 0, 10);
        x.hold(1, 0, 15);
        x.hold(3, 0, 10);
        x.match();
        x.serve(1, 7);
        x.today(11);
        x.recall(0, 3, 3);
        return x;
    }

    /**
     * There is room for more of everything. Parts 4 and 5 are free, 1 is held for ask 0 up to day 25, 0 was sold on
     * day 10 and 2 on day 19, 3 is recalled. Asks 0, 3, 4 and 5 are open: the match that was found gives ask 0
     * part 5 and ask 3 part 3. Tool 0 is late, tool 2 is lent, the latest recall told part 2.
     */
    static PartShelves mixed() {
        PartShelves x = new PartShelves();
        x.row(0, 10);
        x.row(5, 20);
        x.row(9, 5);
        for (int i = 0; i < 4; i++) {
            x.fits(i, i, true);
        }
        int[][] kindsAndAges = {{0, 0}, {0, 5}, {1, 9}, {2, 0}, {3, 0}, {0, 9}};
        for (int p = 0; p < 6; p++) {
            x.part(kindsAndAges[p][0], kindsAndAges[p][1], 100 + p);
        }
        long[][] asks = {{0, 100, 5}, {0, 100, 4}, {1, 50, 9}, {2, 60, 0}, {5, 70, 0}, {0, 4, 0}};
        for (long[] ask : asks) {
            x.ask((int) ask[0], ask[1], ask[2]);
        }
        x.warranty(0, 3);
        x.warranty(1, 1000);
        for (int j = 0; j < 3; j++) {
            x.job();
        }
        x.needs(0, 0, 1);
        x.needs(1, 3, 1);
        x.needs(2, 1, 2);
        x.today(10);
        x.match();
        x.serve(1, 7);
        x.today(19);
        x.serve(2, 8);
        x.recall(2, 103, 103);
        x.recall(1, 0, 200);
        x.hold(1, 0, 25);
        x.plan();
        x.lend(0, 1, 19);
        x.lend(2, 2, 30);
        x.today(DAY);
        return x;
    }

    /** No more rows, parts, asks and jobs are taken; all tools are lent; a match and a plan were found. */
    static PartShelves full() {
        PartShelves x = new PartShelves();
        for (int i = 0; i < 6; i++) {
            x.row(10 * i, 60 - 10 * i);
            x.job();
            x.needs(i, i % 3, 1 + i % 2);
            x.fits(i % 3, i, true);
            x.warranty(i, i);
        }
        for (int i = 0; i < 8; i++) {
            x.part(i % 3, 9 * i, i);
            x.ask(i % 6, 100 + 7 * i, i % 4);
        }
        x.today(DAY);
        for (int tool = 0; tool < 4; tool++) {
            x.lend(tool, tool, DAY + tool);
        }
        x.match();
        x.plan();
        return x;
    }

    /** All answers that tell what was found, then those of calls that bring out what does not show by itself. */
    static List<Long> look(PartShelves x) {
        List<Long> answers = new ArrayList<>();
        lookAtFound(x, answers);
        add(answers, x.today(DAY - 1), x.today(DAY));
        for (int k = 0; k < 8; k++) {
            answers.add((long) x.serve(k, k));
            add(answers, x.returned(k));
            answers.add((long) x.late(k));
        }
        x.job();
        x.part(4, 9, 1);
        x.part(5, 40, 2);
        x.ask(5, 40, 3);
        x.plan();
        x.match();
        lookAtFound(x, answers);
        add(answers, x.hold(4, 3, DAY), x.hold(5, 0, DAY + 5));
        add(answers, x.today(DAY + 6), x.row(60, 1));
        for (int k = 0; k < 8; k++) {
            answers.add((long) x.state(k));
            answers.add(x.price(k));
            answers.add((long) x.late(k));
            answers.add((long) x.back(k));
        }
        answers.add((long) x.part(0, 0, 0));
        answers.add((long) x.ask(0, 0, 0));
        answers.add((long) x.job());
        return answers;
    }

    private static void lookAtFound(PartShelves x, List<Long> answers) {
        answers.add(x.worth());
        answers.add(x.cost());
        for (int k = 0; k < 8; k++) {
            answers.add((long) x.state(k));
            answers.add(x.price(k));
            answers.add((long) x.of(k));
            answers.add(x.gain(0, k));
            answers.add(x.gain(1, k));
            answers.add((long) x.recalled(k));
            add(answers, x.does(k));
        }
    }

    private static void add(List<Long> answers, boolean... more) {
        for (boolean answer : more) {
            answers.add(answer ? 1L : 0L);
        }
    }
}
