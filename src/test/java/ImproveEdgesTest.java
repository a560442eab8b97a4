/** The boundary cases of promise 24: improving by moves. */
public final class ImproveEdgesTest {
    public static void main(String[] args) {
        rangeOfSteps();
        nothingToMove();
        noOtherPlace();
        oneStep();
        twentySteps();
        lastThreeRest();
        fewerThanFourLessons();
        restEndsWithTheCall();
        lowestLessonAndPlace();
        overTablesThatCostMore();
        firstOfSeveral();
        lockedAndPastStay();
        weightsOfZero();
        costsWhenItGoesBack();
        Check.end();
    }

    /** One room; each lesson, of one hour, has people of its own, who are there on the day 0 alone. */
    private static Scene dayZero(int lessons) {
        Scene x = new Scene("addRoom(0, 0, 20)");
        for (int i = 0; i < lessons; i++) {
            x.then("addTeacher(30)", "addGroup(20)", "addLesson(" + i + ", " + i + ", 0, 1, 0)");
        }
        return x;
    }

    private static Scene wishes(Scene x, int teacher, int... wishes) {
        for (int slot = 0; slot < wishes.length; slot++) {
            x.then("setWish(" + teacher + ", " + slot + ", " + wishes[slot] + ")");
        }
        return x;
    }

    private static void places(Scene x, int... places) {
        for (int i = 0; i < places.length; i++) {
            x.due("placeOf(" + i + ")", places[i]);
        }
    }

    private static void rangeOfSteps() {
        new Scene().refusesArgument("improve(0)", "improve(21)", "improve(-1)", "improve(MIN)", "improve(MAX)");
        Scene x = dayZero(1).then("place(0, 5, 0)");
        x.refusesArgument("improve(0)", "improve(21)", "improve(-1)", "improve(MIN)", "improve(MAX)");
        x.with().due("improve(1)", 0).due("placeOf(0)", 0);
        x.with().due("improve(20)", 0).due("placeOf(0)", 0);
    }

    private static void nothingToMove() {
        new Scene().due("improve(1)", 0).due("improve(20)", 0);
        dayZero(3).due("improve(20)", 0).refusesElement("placeOf(0)").due("hardest()", 0);
        Scene locked = dayZero(1).then("place(0, 5, 0)", "lock(0)").due("improve(20)", 1);
        places(locked, 40);
        Scene past = dayZero(1).then("place(0, 5, 0)", "passDay()").due("improve(20)", 1);
        places(past, 40);
    }

    /** The own place is no move: with no other one, the steps end, even for a lesson that costs. */
    private static void noOtherPlace() {
        Scene x = dayZero(6);
        for (int i = 0; i < 6; i++) {
            x.then("place(" + i + ", " + i + ", 0)", "setWish(" + i + ", " + i + ", 9)");
        }
        x.due("possible(0)", 1).due("improve(20)", 55);
        places(x, 0, 8, 16, 24, 32, 40);
        Scene more = dayZero(6).then("addTeacher(0)", "addLesson(0, 6, 0, 1, 1)", "place(6, 29, 0)");
        for (int i = 0; i < 6; i++) {
            more.then("place(" + i + ", " + i + ", 0)");
        }
        more.due("cost()", 2).due("improve(1)", 1);
        places(more, 0, 8, 16, 24, 32, 40, 48);
    }

    private static void oneStep() {
        Scene x = wishes(wishes(dayZero(2), 0, 3, 0, 1, 1, 1, 1), 1, 1, 1, 1, 5, 0, 1).then("place(0, 0, 0)", "place(1, 3, 0)");
        x.with().due("improve(1)", 3).due("placeOf(0)", 0).due("placeOf(1)", 32);
        x.with().due("improve(2)", 0).due("placeOf(0)", 8).due("placeOf(1)", 32);
        x.due("improve(1)", 3).due("improve(1)", 0).due("improve(1)", 0);
        places(x, 8, 32);
    }

    /** Found by search: in nineteen steps the wish is not yet met; in the twentieth it is. */
    private static void twentySteps() {
        Scene x = new Scene("addRoom(0, 0, 20)", "addTeacher(28)", "addGroup(20)", "addLesson(0, 0, 0, 2, 1)");
        x.then("addLesson(0, 0, 0, 2, 0)", "addLesson(0, 0, 0, 1, 2)", "addLesson(0, 0, 0, 2, 2)", "setWish(0, 2, 1)", "fill()");
        x.with().due("improve(1)", 1).due("costAnew()", 1);
        x.with().due("improve(19)", 1).due("costAnew()", 1);
        x.with().due("improve(20)", 0).due("costAnew()", 0).due("isSound()", true);
    }

    /**
     * Lesson 0 leaves slot 21 for slot 20 in step 1, as 1 is in slot 28, where 0 wants to be. In the steps 2 to 4
     * lessons 1, 2 and 3 move, and in step 5 lesson 0 is no longer one of the last three.
     */
    private static void lastThreeRest() {
        Scene x = new Scene("addRoom(0, 0, 20)");
        for (int i = 0; i < 4; i++) {
            x.then("addTeacher(0)", "addGroup(20)", "addLesson(" + i + ", " + i + ", 0, 1, 0)");
        }
        for (int slot = 0; slot < 30; slot++) {
            x.then("setWish(0, " + slot + ", " + (slot == 28 ? 0 : slot == 20 ? 2 : 9) + ")");
        }
        x.then("place(0, 21, 0)", "place(1, 28, 0)", "place(2, 1, 0)", "place(3, 2, 0)").due("cost()", 9);
        for (int steps = 1; steps <= 4; steps++) {
            places(x.with().due("improve(" + steps + ")", 2), 160, 224, 8, 16);
        }
        places(x.with().due("improve(5)", 0), 224, 0, 24, 8);
    }

    /** Three lessons that all were moved have to rest, and the steps end; a fourth one would let the first move. */
    private static void fewerThanFourLessons() {
        Scene x = wishes(dayZero(3), 0, 9, 0, 5, 5, 5, 5);
        wishes(wishes(x, 1, 0, 9, 5, 5, 5, 5), 2, 5, 5, 5, 5, 0, 5);
        x.then("place(0, 0, 0)", "place(1, 1, 0)", "place(2, 5, 0)").due("cost()", 24).due("improve(20)", 5);
        places(x, 16, 0, 32);
        x.due("improve(1)", 0);
        places(x, 8, 0, 32);
    }

    private static void restEndsWithTheCall() {
        Scene x = wishes(dayZero(1), 0, 4, 3, 2, 1, 0, 5).then("place(0, 0, 0)").due("improve(1)", 0);
        x.then("setWish(0, 4, 6)").due("improve(1)", 1).then("setWish(0, 3, 6)").due("improve(1)", 2);
        places(x, 16);
    }

    private static void lowestLessonAndPlace() {
        Scene x = new Scene("addRoom(0, 0, 20)", "addRoom(0, 0, 20)", "addRoom(0, 0, 20)");
        for (int i = 0; i < 2; i++) {
            x.then("addTeacher(0)", "addGroup(20)", "addLesson(" + i + ", " + i + ", 0, 1, 0)");
            x.then("setWish(" + i + ", 9, 3)", "place(" + i + ", 9, " + (1 - i) + ")");
        }
        x.with("place(1, 10, 0)").due("improve(1)", 0).due("placeOf(0)", 0).due("placeOf(1)", 80);
        places(x.with().due("improve(1)", 3), 0, 72);
        places(x.with().due("improve(2)", 0), 0, 1);
        places(x.with("close(0)").due("placeOf(1)", 1).due("improve(1)", 0), 2, 1);
    }

    /** Lesson 0 stands where 1 wants to be, and costs 1 more where it has to go: 5, then 6, then 2. */
    private static void overTablesThatCostMore() {
        Scene x = wishes(wishes(dayZero(2), 0, 1, 2, 9, 9, 9, 9), 1, 0, 9, 4, 9, 9, 9);
        x.then("place(0, 0, 0)", "place(1, 2, 0)").due("cost()", 5);
        places(x.with().due("improve(1)", 5), 0, 16);
        places(x.with().due("improve(2)", 2), 8, 0);
        places(x.with().due("improve(20)", 2), 8, 0);
    }

    /** Moves from a table that costs nothing to others that cost nothing: the one at the beginning stays. */
    private static void firstOfSeveral() {
        Scene x = dayZero(2).then("place(0, 2, 0)", "place(1, 4, 0)");
        for (int steps = 1; steps <= 20; steps += 19) {
            places(x.due("improve(" + steps + ")", 0), 16, 32);
        }
        x.then("place(1, 5, 0)").due("cost()", 1);
        places(x.with().due("improve(1)", 0), 16, 0);
        places(x.with().due("improve(20)", 0), 16, 0);
    }

    private static void lockedAndPastStay() {
        Scene x = new Scene("addRoom(0, 0, 20)");
        for (int i = 0; i < 4; i++) {
            x.then("addTeacher(0)", "addGroup(20)", "addLesson(" + i + ", " + i + ", 0, 1, 0)", "setWish(" + i + ", " + 6 * i + ", 5)");
            x.then("place(" + i + ", " + 6 * i + ", 0)");
        }
        x.then("lock(2)", "passDay()").due("cost()", 20).due("improve(20)", 10);
        places(x, 0, 56, 96, 48);
        x.due("isLocked(2)", true).then("unlock(2)").due("improve(20)", 5).due("placeOf(0)", 0);
        x.then("passDay()", "passDay()", "passDay()", "nextWeek()").due("improve(20)", 0);
    }

    private static void weightsOfZero() {
        Scene x = wishes(dayZero(1), 0, 0, 9, 9, 9, 9, 9).then("place(0, 5, 0)", "setWeight(1, 0)", "setWeight(2, 0)");
        places(x.due("cost()", 0).due("improve(20)", 0), 40);
        x.then("setWeight(1, 9)");
        places(x.due("improve(20)", 0), 0);
    }

    /** Lessons of one group, that make gaps and crowds wherever they go, come back from twenty moves. */
    private static void costsWhenItGoesBack() {
        Scene x = new Scene("addRoom(0, 0, 20)", "addTeacher(28)", "addGroup(20)");
        for (int i = 0; i < 6; i++) {
            x.then("addLesson(0, 0, 0, 1, " + i / 3 + ")", "place(" + i + ", " + (i / 3 * 6 + i % 3) + ", 0)");
        }
        x.due("cost()", 6).due("improve(20)", 2);
        x.due("amount(0)", 0).due("amount(1)", 0).due("amount(3)", 2).due("costAnew()", 2).due("isSound()", true);
        x.due("improve(20)", 2).due("costAnew()", 2).due("amount(0)", 0).due("amount(3)", 2);
    }
}
