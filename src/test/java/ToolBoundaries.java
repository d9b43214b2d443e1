/** The sentences of promises 24 to 26: lend, back, late. */
final class ToolBoundaries {
    private static final int NONE = PartShelves.NONE;

    private final Sentences told;
    private final Due due;

    ToolBoundaries(Sentences told, Due due) {
        this.told = told;
        this.due = due;
    }

    void test() {
        lend();
        back();
        late();
    }

    private void lend() {
        told.in("Promise 24: lend");
        told.test("A tool that is not lent is lent", () -> {
            PartShelves x = new PartShelves();
            due.is("lend(0, 1, 5)", x.lend(0, 1, 5), true);
            due.is("lend(0, 2, 9) of a lent tool", x.lend(0, 2, 9), false);
            due.is("lend(0, 1, 5) to who has it", x.lend(0, 1, 5), false);
            x.today(6);
            due.is("lend(0, 2, 9) of a late tool", x.lend(0, 2, 9), false);
            due.is("back(0): the first has it still", x.back(0), 1);
            due.is("lend(0, 2, 9) when it is back", x.lend(0, 2, 9), true);
            due.is("back(0)", x.back(0), 2);
        });
        told.test("to a person up to a day", () -> {
            PartShelves x = new PartShelves();
            x.lend(0, 0, 0);
            x.lend(3, 9, 100000);
            due.is("late(0) on day 0", x.late(0), NONE);
            x.today(1);
            due.is("late(0) on day 1", x.late(0), 0);
            x.today(100000);
            due.is("late(1) on the last of all days", x.late(1), NONE);
            due.is("back(0)", x.back(0), 0);
            due.is("back(3)", x.back(3), 9);
        });
        told.test("Answers true; false when these are not such", () -> {
            PartShelves x = new PartShelves();
            for (int tool : Scenes.outside(0, 3)) {
                due.is("lend(" + tool + ", 0, 5)", x.lend(tool, 0, 5), false);
            }
            for (int person : Scenes.outside(0, 9)) {
                due.is("lend(0, " + person + ", 5)", x.lend(0, person, 5), false);
            }
            for (int day : Scenes.outside(0, 100000)) {
                due.is("lend(0, 0, " + day + ")", x.lend(0, 0, day), false);
            }
            for (int tool = 0; tool < 4; tool++) {
                due.is("back(" + tool + "): nothing was lent", x.back(tool), NONE);
                due.is("lend(" + tool + ", 9, 100000)", x.lend(tool, 9, 100000), true);
            }
        });
        told.test("or the day is before today", () -> {
            PartShelves x = new PartShelves();
            x.today(30);
            due.is("lend(0, 0, 29)", x.lend(0, 0, 29), false);
            due.is("lend(0, 0, 0)", x.lend(0, 0, 0), false);
            due.is("back(0)", x.back(0), NONE);
            due.is("lend(0, 0, 30), today itself", x.lend(0, 0, 30), true);
        });
    }

    private void back() {
        told.in("Promise 25: back");
        told.test("A lent tool is back. Answers the person", () -> {
            PartShelves x = new PartShelves();
            for (int tool = 0; tool < 4; tool++) {
                x.lend(tool, 3 * tool, tool);
            }
            x.today(2);
            for (int tool = 0; tool < 4; tool++) {
                due.is("back(" + tool + "), late or not", x.back(tool), 3 * tool);
                due.is("lend(" + tool + ", 1, 2): it is lent no more", x.lend(tool, 1, 2), true);
            }
        });
        told.test("NONE when it is not lent", () -> {
            PartShelves x = new PartShelves();
            due.is("back(0) of a new object", x.back(0), NONE);
            x.lend(0, 0, 5);
            for (int tool : Scenes.outside(0, 0)) {
                due.is("back(" + tool + ")", x.back(tool), NONE);
            }
            due.is("back(0), lent to person 0", x.back(0), 0);
            due.is("back(0) again", x.back(0), NONE);
            x.lend(3, 9, 5);
            due.is("back(4)", x.back(4), NONE);
            due.is("back(3)", x.back(3), 9);
        });
    }

    private void late() {
        told.in("Promise 26: late");
        told.test("The k-th tool, by numbers", () -> {
            PartShelves x = new PartShelves();
            for (int tool = 3; tool >= 0; tool--) {
                x.lend(tool, 5, 3 - tool);
            }
            x.today(10);
            for (int k = 0; k < 4; k++) {
                due.is("late(" + k + ")", x.late(k), k);
            }
            x.back(1);
            due.is("late(0)", x.late(0), 0);
            due.is("late(1), when tool 1 is back", x.late(1), 2);
            due.is("late(2)", x.late(2), 3);
            x.back(0);
            due.is("late(0), when tool 0 is back", x.late(0), 2);
        });
        told.test("that is lent up to a day before today", () -> {
            PartShelves x = new PartShelves();
            x.lend(2, 0, 5);
            x.today(4);
            due.is("late(0) the day before", x.late(0), NONE);
            x.today(5);
            due.is("late(0) on the day", x.late(0), NONE);
            x.today(6);
            due.is("late(0) the day behind", x.late(0), 2);
            x.back(2);
            due.is("late(0) when it is back", x.late(0), NONE);
            x.lend(2, 0, 6);
            due.is("late(0) when it is lent anew", x.late(0), NONE);
        });
        told.test("NONE when there is none such", () -> {
            due.is("late(0) of a new object", new PartShelves().late(0), NONE);
            PartShelves x = new PartShelves();
            x.lend(1, 0, 0);
            x.lend(3, 0, 0);
            x.today(1);
            due.is("late(1)", x.late(1), 3);
            for (int k : Scenes.outside(0, 1)) {
                due.is("late(" + k + ")", x.late(k), NONE);
            }
            x.lend(0, 0, 1);
            x.lend(2, 0, 1);
            x.today(2);
            due.is("late(3) of all 4", x.late(3), 3);
            due.is("late(4) of all 4", x.late(4), NONE);
        });
    }
}
