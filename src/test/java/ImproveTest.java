/** Promise 24: moves, some of them barred for a while, and the best table of all. */
public final class ImproveTest {
    private static final Class<IllegalArgumentException> ARGUMENT = IllegalArgumentException.class;

    public static void main(String[] args) {
        wrongSteps();
        oneLesson();
        numberOfSteps();
        lowestLessonThenLowestPlace();
        restOfThreeSteps();
        threeOthersInBetween();
        overAWorseTable();
        theFirstOfSeveral();
        whoMayNotMove();
        Check.end();
    }

    private static Termgrid school(int lessons, int daysOff) {
        Termgrid x = new Termgrid();
        x.addRoom(0, 0, 20);
        for (int i = 0; i < lessons; i++) {
            x.addTeacher(daysOff);
            x.addGroup(20);
            x.addLesson(i, i, 0, 1, 0);
        }
        return x;
    }

    private static void wishes(Termgrid x, int teacher, int... wishes) {
        for (int slot = 0; slot < wishes.length; slot++) {
            x.setWish(teacher, slot, wishes[slot]);
        }
    }

    private static void wrongSteps() {
        Termgrid x = school(1, 0);
        x.place(0, 5, 0);
        Check.refused("improve(0)", ARGUMENT, () -> x.improve(0));
        Check.refused("improve(-1)", ARGUMENT, () -> x.improve(-1));
        Check.refused("improve(21)", ARGUMENT, () -> x.improve(21));
        Check.refused("improve(MAX)", ARGUMENT, () -> x.improve(Integer.MAX_VALUE));
        Check.due("placeOf(0)", x.placeOf(0), 40);
        Check.due("improve(1)", x.improve(1), 0);
        Check.due("placeOf(0)", x.placeOf(0), 0);
        Check.due("improve(20)", x.improve(20), 0);
        Check.due("placeOf(0)", x.placeOf(0), 0);
    }

    private static void oneLesson() {
        Termgrid x = school(1, 30);
        Check.due("improve(5), nothing placed", x.improve(5), 0);
        wishes(x, 0, 9, 3, 5, 9, 9, 9);
        x.place(0, 2, 0);
        Check.due("improve(20)", x.improve(20), 3);
        Check.due("placeOf(0)", x.placeOf(0), 8);
        Check.due("improve(20): moved to 5 and back", x.improve(20), 3);
        Check.due("placeOf(0)", x.placeOf(0), 8);
    }

    private static void numberOfSteps() {
        Termgrid x = school(3, 0);
        for (int i = 0; i < 3; i++) {
            x.setWish(i, 12 + i, 9 - i);
            x.place(i, 12 + i, 0);
        }
        Check.due("improve(1)", x.improve(1), 15);
        Check.due("placeOf(0)", x.placeOf(0), 0);
        Check.due("placeOf(1)", x.placeOf(1), 104);
        Check.due("improve(2)", x.improve(2), 0);
        Check.due("placeOf(1)", x.placeOf(1), 8);
        Check.due("placeOf(2)", x.placeOf(2), 16);
    }

    private static void lowestLessonThenLowestPlace() {
        Termgrid x = school(3, 0);
        x.addRoom(0, 0, 20);
        for (int i = 1; i < 3; i++) {
            x.setWish(i, 12, 5);
            x.place(i, 12, i - 1);
        }
        x.place(0, 0, 0);
        Check.due("improve(1)", x.improve(1), 5);
        Check.due("placeOf(0)", x.placeOf(0), 0);
        Check.due("placeOf(1): lower than 2", x.placeOf(1), 1);
        Check.due("placeOf(2)", x.placeOf(2), 97);
    }

    /**
     * Two lessons that stand in each other's way on one day. Step 1 moves 0 to slot 2 (14), step 2 moves 1 to
     * slot 0 (5), and then both have to rest. Each new call begins without a rest.
     */
    private static void restOfThreeSteps() {
        Termgrid x = school(2, 30);
        wishes(x, 0, 9, 0, 5, 5, 5, 5);
        wishes(x, 1, 0, 9, 5, 5, 5, 5);
        x.place(0, 0, 0);
        x.place(1, 1, 0);
        Check.due("cost()", x.cost(), 18);
        Check.due("improve(20)", x.improve(20), 5);
        Check.due("placeOf(0)", x.placeOf(0), 16);
        Check.due("placeOf(1)", x.placeOf(1), 0);
        Check.due("improve(1)", x.improve(1), 0);
        Check.due("placeOf(0)", x.placeOf(0), 8);
    }

    /**
     * Lesson 0 moves to slot 20 (2) in step 1, and 1 leaves slot 28, where 0 wants to be, in step 2; 2 and 3
     * move in the steps 3 and 4, and in step 5 lesson 0 has rested long enough.
     */
    private static void threeOthersInBetween() {
        for (int steps = 4; steps <= 5; steps++) {
            Termgrid x = school(4, 0);
            for (int slot = 0; slot < 30; slot++) {
                x.setWish(0, slot, slot == 28 ? 0 : slot == 20 ? 2 : 9);
            }
            x.place(0, 21, 0);
            x.place(1, 28, 0);
            x.place(2, 1, 0);
            x.place(3, 2, 0);
            Check.due("improve(" + steps + ")", x.improve(steps), steps == 4 ? 2 : 0);
            Check.due("placeOf(0)", x.placeOf(0), steps == 4 ? 160 : 224);
            Check.due("placeOf(1)", x.placeOf(1), steps == 4 ? 224 : 0);
            Check.due("placeOf(2)", x.placeOf(2), steps == 4 ? 8 : 24);
            Check.due("placeOf(3)", x.placeOf(3), steps == 4 ? 16 : 8);
        }
    }

    /** Lesson 0 stands where 1 wants to be: 0 has to move to a place that costs it more. */
    private static void overAWorseTable() {
        Termgrid x = school(2, 30);
        wishes(x, 0, 1, 2, 9, 9, 9, 9);
        wishes(x, 1, 0, 9, 4, 9, 9, 9);
        x.place(0, 0, 0);
        x.place(1, 2, 0);
        Check.due("cost()", x.cost(), 5);
        Check.due("improve(1): 6 is no better", x.improve(1), 5);
        Check.due("placeOf(0)", x.placeOf(0), 0);
        Check.due("improve(2)", x.improve(2), 2);
        Check.due("placeOf(0)", x.placeOf(0), 8);
        Check.due("placeOf(1)", x.placeOf(1), 0);
    }

    private static void theFirstOfSeveral() {
        Termgrid x = school(2, 0);
        x.place(0, 7, 0);
        x.place(1, 20, 0);
        Check.due("improve(20)", x.improve(20), 0);
        Check.due("placeOf(0), as at the beginning", x.placeOf(0), 56);
        Check.due("placeOf(1), as at the beginning", x.placeOf(1), 160);
        x.setWish(1, 20, 3);
        Check.due("improve(20)", x.improve(20), 0);
        Check.due("placeOf(0), not moved before 1 was", x.placeOf(0), 56);
        Check.due("placeOf(1)", x.placeOf(1), 0);
    }

    private static void whoMayNotMove() {
        Termgrid x = school(4, 0);
        for (int i = 0; i < 3; i++) {
            x.setWish(i, 5 + 6 * i, 9);
            x.place(i, 5 + 6 * i, 0);
        }
        x.lock(1);
        x.passDay();
        Check.due("cost()", x.cost(), 30);
        Check.due("improve(20)", x.improve(20), 20);
        Check.due("placeOf(0), past", x.placeOf(0), 40);
        Check.due("placeOf(1), locked", x.placeOf(1), 88);
        Check.due("placeOf(2)", x.placeOf(2), 48);
        Check.refused("placeOf(3), not placed", java.util.NoSuchElementException.class, () -> x.placeOf(3));
        Check.due("isLocked(1)", x.isLocked(1), true);
    }
}
