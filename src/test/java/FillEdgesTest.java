/** The boundary cases of promise 23: filling the table. */
public final class FillEdgesTest {
    public static void main(String[] args) {
        nothingToPlace();
        nowhereToPlace();
        everythingFull();
        hardestIsFoundAnew();
        hardestOfSeveral();
        tenTimesOfTwo();
        tenTimesOfThree();
        onceForEachThatIsPlacedSo();
        countBeginsAnew();
        notWhereOtherLettersBar();
        notWhereLockedLessonsBar();
        pastLessonsStay();
        fewestAndLowest();
        lowestRoomOfSeveral();
        thrownOutForEachLetter();
        thrownOutAtTheLastPlace();
        noPlaceCountsNotAsThrownOut();
        Check.end();
    }

    /** One room, and people who are there on the day 0 alone; the lessons cost only for late hours. */
    private static Scene dayZero(int... lengths) {
        Scene x = new Scene("addRoom(0, 0, 20)", "addTeacher(30)", "addGroup(20)", "setWeight(3, 0)");
        return lessons(x, 0, lengths);
    }

    private static Scene lessons(Scene x, int people, int... lengths) {
        for (int length : lengths) {
            x.then("addLesson(" + people + ", " + people + ", 0, " + length + ", 0)");
        }
        return x;
    }

    /** Where the lessons are, -1 for one that is not placed. */
    private static void places(Scene x, int... places) {
        for (int i = 0; i < places.length; i++) {
            if (places[i] < 0) {
                x.refusesElement("placeOf(" + i + ")");
            } else {
                x.due("placeOf(" + i + ")", places[i]);
            }
        }
    }

    private static void nothingToPlace() {
        new Scene().due("fill()", 0).due("fill()", 0);
        dayZero().due("fill()", 0);
        Scene x = dayZero(1, 1).then("place(0, 5, 0)", "place(1, 2, 0)", "lock(1)").due("fill()", 0);
        places(x, 40, 16);
        x.then("passDay()").due("fill()", 0).due("isLocked(1)", true);
        places(x, 40, 16);
    }

    private static void nowhereToPlace() {
        Scene x = lessons(new Scene("addTeacher(0)", "addGroup(20)"), 0, 1, 2, 3);
        x.due("fill()", 3).then("addRoom(0, 1, 20)").due("fill()", 3).then("addRoom(0, 0, 19)").due("fill()", 3);
        x.then("addRoom(0, 0, 20)", "close(2)").due("fill()", 3).then("open(2)").due("fill()", 0);
        places(x, 98, 50, 2);
    }

    private static void everythingFull() {
        Scene none = new Scene("addTeacher(0)", "addGroup(20)");
        Scene all = new Scene("setWeight(3, 0)");
        for (int i = 0; i < 8; i++) {
            all.then("addRoom(0, 0, 20)", "addTeacher(0)", "addGroup(20)");
        }
        for (int i = 0; i < 16; i++) {
            none.then("addLesson(0, 0, 0, 3, 0)");
            all.then("addLesson(" + i / 2 + ", " + i / 2 + ", 0, 3, 0)");
        }
        none.due("fill()", 16).due("hardest()", 0);
        all.due("fill()", 0).due("cost()", 0).refusesElement("hardest()");
        places(all, 0, 48, 1, 49, 2, 50, 3, 51, 4, 52, 5, 53, 6, 54, 7, 55);
        none.then("addRoom(0, 0, 20)").due("fill()", 6).refusesElement("placeOf(15)").due("placeOf(9)", 8 * 27);
    }

    /** Lessons 1 and 2 have six places each and both want slot 3; when 0 is placed, 2 has three left and comes first. */
    private static void hardestIsFoundAnew() {
        Scene x = dayZero(3).then("addRoom(0, 1, 20)", "addTeacher(30)", "addTeacher(30)", "addGroup(20)");
        x.then("addLesson(1, 1, 1, 1, 0)", "addLesson(0, 2, 1, 1, 0)");
        for (int slot = 0; slot < 6; slot++) {
            x.then("setWish(1, " + slot + ", " + (slot == 3 ? 0 : 1) + ")");
        }
        x.due("possible(1)", 6).due("possible(2)", 6).due("fill()", 0);
        places(x, 0, 1, 25);
    }

    private static void hardestOfSeveral() {
        places(dayZero(2, 2, 2).due("fill()", 0), 0, 16, 32);
        places(dayZero(1, 1, 1, 1, 1, 1).due("fill()", 0), 0, 8, 16, 24, 32, 40);
        places(dayZero(1, 1, 1, 1, 1, 1, 1).due("fill()", 1), 0, 8, 16, 24, 32, 40, -1);
    }

    // ---------------------------------------------------------------- ten times

    /** Lesson 2 throws out 0, which throws out 2, and so on: at the tenth time, 0 is placed. */
    private static void tenTimesOfTwo() {
        Scene x = dayZero(3, 3, 3).due("fill()", 1);
        places(x, 0, 24, -1);
        x.due("hardest()", 2).due("possible(2)", 0).due("isSound()", true);
    }

    /**
     * Three lessons that throw one another out in turn, so that the tables come again after three times. It was
     * found by search: with one or two times more or less than ten, the table would be another one.
     */
    private static Scene threeInTurn() {
        Scene x = new Scene("addRoom(1, 0, 20)", "addRoom(0, 0, 20)", "addRoom(0, 0, 20)");
        for (int i = 0; i < 3; i++) {
            x.then("addTeacher(30)", "addGroup(20)");
        }
        x.then("addLesson(1, 2, 0, 2, 0)", "addLesson(1, 0, 0, 1, 0)", "addLesson(2, 0, 0, 3, 0)");
        return x.then("addLesson(2, 2, 0, 3, 0)", "addLesson(1, 0, 0, 3, 0)");
    }

    private static void tenTimesOfThree() {
        places(threeInTurn().due("fill()", 2), -1, 33, -1, 24, 0);
    }

    /**
     * Lesson 2 throws out 0 and 1, which counts once. Then 0 throws out 2 and 2 throws out 0 by turns, so that at
     * the tenth time 0 is placed; if each lesson that is thrown out counted, 2 would be.
     */
    private static void onceForEachThatIsPlacedSo() {
        Scene x = dayZero(1, 1, 2).then("addTeacher(30)", "addGroup(20)");
        lessons(x, 1, 1, 3).then("place(3, 2, 0)", "place(4, 3, 0)", "lock(3)", "lock(4)");
        x.then("place(0, 0, 0)", "place(1, 1, 0)").due("fill()", 1);
        places(x, 0, 8, -1, 16, 24);
    }

    /** Ten times more, so that the turn is at another one of the three. */
    private static void countBeginsAnew() {
        Scene x = threeInTurn().then("fill()").due("fill()", 2);
        places(x, 0, 33, -1, 24, -1);
    }

    // ---------------------------------------------------------------- where lessons are thrown out

    /** Lesson 0 stands in the way of lesson 1, but one more letter bars each of the places. */
    private static void notWhereOtherLettersBar() {
        Scene h = dayZero(1).then("addTeacher(0)", "addGroup(20)");
        lessons(h, 1, 1, 1).then("place(0, 5, 0)", "place(1, 1, 0)", "place(2, 3, 0)", "lock(1)", "lock(2)");
        lessons(h, 0, 3).due("fill()", 1);
        places(h, 40, 8, 24, -1);
        Scene p = dayZero(1, 3).then("place(0, 1, 0)", "passDay()").due("fill()", 1);
        places(p, 8, -1);
        Scene o = dayZero(1).then("addTeacher(31)", "addLesson(0, 1, 0, 3, 0)", "place(0, 1, 0)").due("fill()", 1);
        places(o, 8, -1);
        Scene k = dayZero(1).then("addLesson(0, 0, 1, 3, 0)", "place(0, 1, 0)").due("fill()", 1);
        places(k, 8, -1);
        Scene s = dayZero(1).then("addGroup(21)", "addLesson(1, 0, 0, 3, 0)", "place(0, 1, 0)").due("fill()", 1);
        places(s, 8, -1);
        Scene c = dayZero(1).then("addRoom(0, 1, 20)", "addLesson(0, 0, 1, 3, 0)", "place(0, 1, 0)", "close(1)").due("fill()", 1);
        places(c, 8, -1);
    }

    private static void notWhereLockedLessonsBar() {
        Scene x = dayZero(1, 1, 3).then("place(0, 2, 0)", "place(1, 4, 0)", "lock(0)").due("fill()", 0);
        places(x, 16, 8, 24);
        Scene both = dayZero(1, 1, 3).then("place(0, 2, 0)", "place(1, 4, 0)", "lock(0)", "lock(1)").due("fill()", 1);
        places(both, 16, 32, -1);
        Scene all = dayZero(3, 3, 1).then("place(0, 0, 0)", "place(1, 3, 0)", "lock(0)", "lock(1)").due("fill()", 1);
        places(all, 0, 24, -1);
        all.then("unlock(1)").due("fill()", 1);
        places(all, 0, 24, -1);
        Scene house = dayZero(3).then("addRoom(1, 1, 20)", "addLesson(0, 0, 1, 3, 0)", "place(0, 0, 0)", "lock(0)");
        places(house.due("fill()", 1), 0, -1);
    }

    private static void pastLessonsStay() {
        Scene x = dayZero(3, 3, 1).then("place(0, 0, 0)", "place(1, 3, 0)", "passDay()").due("fill()", 1);
        places(x, 0, 24, -1);
        Scene y = new Scene("addRoom(0, 0, 20)", "addTeacher(28)", "addGroup(20)", "setWeight(3, 0)");
        lessons(y, 0, 3, 3, 3, 3, 1).then("place(0, 0, 0)", "place(1, 3, 0)", "place(2, 6, 0)", "place(3, 9, 0)", "passDay()");
        places(y.due("fill()", 1), 0, 24, 48, 72, -1);
    }

    /** Lesson 4 can stand at 0 for three others, at 1 for three, at 2 for two and at 3 for one, which it throws out. */
    private static void fewestAndLowest() {
        Scene x = dayZero(1, 1, 1, 3, 3);
        x.then("place(0, 0, 0)", "place(1, 1, 0)", "place(2, 2, 0)", "place(3, 3, 0)").due("fill()", 1);
        places(x, 0, 8, 16, 24, -1);
        Scene y = dayZero(2, 1, 3).then("addTeacher(28)", "addLesson(0, 1, 0, 3, 0)", "place(3, 3, 0)");
        y.then("place(0, 0, 0)", "place(1, 2, 0)").due("fill()", 0);
        places(y, 0, 16, 24, 48);
        Scene even = dayZero(3).then("addTeacher(28)", "addLesson(0, 1, 0, 3, 0)", "addLesson(0, 1, 0, 3, 0)");
        even.then("place(1, 0, 0)", "place(2, 3, 0)").due("fill()", 0);
        places(even, 0, 48, 24);
    }

    /** In both rooms one lesson stands in the way of lesson 2; the one in the room 0 is thrown out. */
    private static void lowestRoomOfSeveral() {
        for (int first = 0; first < 2; first++) {
            Scene x = new Scene("addRoom(0, 0, 20)", "addRoom(0, 0, 20)", "addTeacher(30)", "addTeacher(0)", "addTeacher(0)");
            x.then("addGroup(20)", "addGroup(20)", "addGroup(20)", "addTeacher(0)");
            x.then("addLesson(1, 1, 0, 3, 0)", "addLesson(2, 2, 0, 3, 0)", "addLesson(0, 0, 0, 3, 0)");
            x.then("addLesson(0, 3, 0, 3, 1)", "place(3, 3, 0)", "lock(3)");
            x.then("place(" + first + ", 0, 0)", "place(" + (1 - first) + ", 0, 1)").due("fill()", 0).due("placeOf(2)", 0);
            x.due("placeOf(" + first + ")", 48).due("placeOf(" + (1 - first) + ")", 1);
        }
    }

    /** Lesson 0 has one place, at which lesson 2 stands in the way by one letter alone; it goes elsewhere. */
    private static void thrownOutForEachLetter() {
        Scene base = new Scene("addRoom(0, 0, 20)", "addRoom(0, 1, 20)", "addRoom(1, 1, 20)", "addTeacher(30)", "addTeacher(28)");
        base.then("addTeacher(28)", "addGroup(20)", "addGroup(20)", "addGroup(20)", "addLesson(0, 0, 0, 3, 0)");
        base.then("addLesson(1, 2, 0, 3, 0)", "place(1, 3, 0)", "lock(1)");
        Scene r = base.with("addLesson(1, 1, 0, 1, 1)", "place(2, 1, 0)").due("reason(0, 0, 0)", 'r').due("fill()", 0);
        places(r, 0, 24, 48);
        Scene g = base.with("addLesson(0, 1, 1, 1, 1)", "place(2, 1, 1)").due("reason(0, 0, 0)", 'g').due("fill()", 0);
        places(g, 0, 24, 25);
        Scene t = base.with("addLesson(2, 0, 1, 1, 1)", "place(2, 1, 1)").due("reason(0, 0, 0)", 't').due("fill()", 0);
        places(t, 0, 24, 25);
        Scene v = base.with("addLesson(0, 1, 1, 1, 1)", "place(2, 3, 2)").due("reason(0, 0, 0)", 'v').due("fill()", 0);
        places(v, 0, 24, 25);
    }

    /**
     * Only the room 7 is of the kind, and the teacher of lesson 2 is there on the day 4 alone, which is full of
     * two locked lessons and of lesson 3 in its last hour: lesson 2 throws it out, and it goes to the day 3.
     */
    private static void thrownOutAtTheLastPlace() {
        Scene x = new Scene();
        for (int i = 0; i < 8; i++) {
            x.then("addRoom(0, " + i / 7 + ", 20)");
        }
        x.then("addTeacher(15)", "addTeacher(7)", "addGroup(20)", "addGroup(20)", "setWeight(3, 0)");
        x.then("addLesson(1, 1, 1, 3, 0)", "addLesson(1, 1, 1, 2, 0)", "addLesson(0, 0, 1, 1, 0)", "addLesson(1, 1, 1, 1, 0)");
        x.then("place(0, 24, 7)", "place(1, 27, 7)", "place(3, 29, 7)", "lock(0)", "lock(1)").due("possible(2)", 0);
        places(x.due("fill()", 0), 199, 223, 239, 151);
    }

    /** Lesson 0 has no room of its kind; lesson 2 throws out 1 all the same, and both are placed. */
    private static void noPlaceCountsNotAsThrownOut() {
        Scene x = new Scene("addRoom(0, 0, 20)", "addTeacher(30)", "addTeacher(0)", "addGroup(20)", "setWeight(3, 0)");
        x.then("addLesson(0, 0, 1, 1, 0)", "addLesson(0, 1, 0, 3, 0)", "addLesson(0, 1, 0, 3, 0)", "addLesson(0, 0, 0, 3, 0)");
        x.then("place(1, 0, 0)", "place(2, 3, 0)").due("possible(0)", 0).due("possible(3)", 0).due("fill()", 1);
        places(x, -1, 48, 24, 0);
    }
}
