/** The boundary cases of the promises 10 to 14: lessons that are placed, removed, locked and unlocked. */
public final class PlacesEdgesTest {
    public static void main(String[] args) {
        placeRanges();
        placeFromFirstToLast();
        placeOrderOfExceptions();
        placeWhereItIs();
        placeInPlaceOfWhereItWas();
        placeOfLockedAndPast();
        placeBarredByEachLetter();
        placeReturnsTheCost();
        removeRanges();
        removeOfUnplacedLockedAndPast();
        removeReturnsTheCost();
        lockRanges();
        lockOfUnplacedLockedAndPast();
        unlockRanges();
        unlockOfWhatIsNotLocked();
        lockAndUnlockAll();
        isLockedRanges();
        Check.end();
    }

    /** Rooms 0 and 1 in the houses 0 and 1; the lessons 0 to 2, of 1 to 3 hours, have people of their own. */
    private static Scene school() {
        Scene x = new Scene("addRoom(0, 0, 20)", "addRoom(1, 0, 20)");
        for (int i = 0; i < 3; i++) {
            x.then("addTeacher(0)", "addGroup(20)", "addLesson(" + i + ", " + i + ", 0, " + (i + 1) + ", 0)");
        }
        return x;
    }

    /** Sixteen lessons of one hour with the same people, in the slots of their numbers. */
    private static Scene full() {
        Scene x = new Scene("addRoom(0, 0, 20)", "addTeacher(0)", "addGroup(20)");
        for (int i = 0; i < 16; i++) {
            x.then("addLesson(0, 0, 0, 1, 0)", "place(" + i + ", " + i + ", 0)");
        }
        return x;
    }

    // ---------------------------------------------------------------- promise 10

    private static void placeRanges() {
        Scene x = school();
        x.refusesIndex("place(-1, 0, 0)", "place(3, 0, 0)", "place(MIN, 0, 0)", "place(MAX, 0, 0)");
        x.refusesArgument("place(0, -1, 0)", "place(0, 30, 0)", "place(0, MIN, 0)", "place(0, MAX, 0)");
        x.refusesArgument("place(0, 0, -1)", "place(0, 0, 2)", "place(0, 0, MIN)", "place(0, 0, MAX)");
        x.due("place(0, 0, 0)", 0).due("place(2, 27, 1)", 1).due("placeOf(0)", 0).due("placeOf(2)", 217);
    }

    private static void placeFromFirstToLast() {
        Scene x = full();
        for (int i = 1; i < 8; i++) {
            x.then("addRoom(0, 0, 20)");
        }
        x.due("place(15, 29, 7)", 36).due("placeOf(15)", 239);
        x.refusesArgument("place(15, 30, 7)", "place(15, 29, 8)").refusesIndex("place(16, 29, 7)");
        x.due("place(15, 18, 0)", 35).due("placeOf(15)", 144);
    }

    private static void placeOrderOfExceptions() {
        new Scene().refusesIndex("place(0, 0, 0)", "place(0, 30, 8)", "place(-1, -1, -1)");
        new Scene("addTeacher(0)", "addGroup(1)", "addLesson(0, 0, 0, 1, 0)").refusesArgument("place(0, 0, 0)");
        Scene locked = school().then("place(0, 6, 0)", "place(1, 0, 1)", "lock(1)");
        locked.refusesIndex("place(3, 30, 0)", "place(3, 0, 2)", "place(-1, -1, -1)", "place(3, 0, 0)");
        locked.refusesArgument("place(1, 30, 0)", "place(1, 0, 2)", "place(1, -1, 0)", "place(1, 5, -1)");
        locked.refusesState("place(1, 6, 0)", "place(1, 5, 0)", "place(1, 0, 1)", "place(1, 12, 0)");
        Scene past = locked.with("passDay()");
        past.refusesState("place(1, 6, 0)", "place(1, 0, 0)", "place(1, 12, 0)");
        past.with("unlock(1)").refusesState("place(1, 6, 0)", "place(1, 0, 0)", "place(1, 12, 0)")
                .refusesArgument("place(1, 30, 0)", "place(1, 12, 2)");
    }

    private static void placeWhereItIs() {
        Scene x = school().then("setWish(2, 9, 4)");
        x.due("place(2, 9, 0)", 5).due("place(2, 9, 0)", 5).due("placeOf(2)", 72).due("cost()", 5);
    }

    private static void placeInPlaceOfWhereItWas() {
        Scene x = school();
        x.then("place(2, 0, 0)").due("groupAt(2, 0)", 2).due("reason(0, 2, 0)", 'r');
        x.then("place(2, 2, 0)").refusesElement("groupAt(2, 0)", "groupAt(2, 1)").due("groupAt(2, 2)", 2);
        x.due("groupAt(2, 4)", 2).due("reason(0, 1, 0)", '-').due("reason(0, 4, 0)", 'r');
        x.then("place(2, 2, 1)").due("reason(0, 2, 0)", '-').due("reason(0, 2, 1)", 'r');
        x.then("place(2, 27, 1)").refusesElement("teacherAt(2, 2)").due("teacherAt(2, 29)", 2);
    }

    private static void placeOfLockedAndPast() {
        Scene x = school().then("place(0, 5, 0)", "place(1, 6, 0)", "lock(1)");
        x.refusesState("place(1, 6, 0)", "place(1, 12, 0)").then("unlock(1)").due("place(1, 12, 0)", 1);
        x.then("place(1, 6, 0)", "passDay()").refusesState("place(0, 5, 0)", "place(0, 6, 1)", "place(0, 29, 1)");
        x.due("place(1, 10, 0)", 2).refusesSupport("place(1, 4, 0)").due("place(1, 6, 0)", 1);
        x.refusesSupport("place(2, 0, 1)").due("place(2, 6, 1)", 1).due("placeOf(0)", 40);
    }

    /** Lesson 0 is barred in slot 11 by h, on the day 0 by p, on the day 4 by o, and in the rooms 1 to 3 by k, s, c. */
    static Scene everyLetter() {
        Scene x = new Scene("addRoom(0, 0, 20)", "addRoom(0, 1, 20)", "addRoom(0, 0, 19)", "addRoom(0, 0, 20)");
        x.then("addRoom(1, 0, 20)", "addRoom(0, 0, 20)", "addTeacher(16)", "addTeacher(0)", "addGroup(20)", "addGroup(19)");
        x.then("addLesson(0, 0, 0, 2, 0)", "addLesson(1, 1, 0, 1, 0)", "addLesson(1, 0, 0, 1, 0)", "addLesson(0, 1, 0, 1, 0)");
        return x.then("passDay()", "close(3)", "place(1, 6, 0)", "place(2, 12, 5)", "place(3, 18, 5)");
    }

    private static void placeBarredByEachLetter() {
        Scene x = everyLetter();
        String[] places = {"11, 0", "0, 0", "24, 0", "6, 1", "6, 2", "6, 3", "6, 0", "12, 0", "18, 0", "13, 4"};
        for (int letter = 0; letter < 10; letter++) {
            x.due("reason(0, " + places[letter] + ")", "hpokscrtgv".charAt(letter));
            x.refusesSupport("place(0, " + places[letter] + ")");
        }
        x.refusesElement("placeOf(0)").due("place(0, 7, 0)", 0);
        for (String place : places) {
            x.refusesSupport("place(0, " + place + ")");
        }
        x.due("placeOf(0)", 56);
    }

    private static void placeReturnsTheCost() {
        Scene x = full();
        x.due("cost()", 2 + 15 + 15 + 6).due("place(15, 29, 0)", 3 + 15 + 15 + 3).due("costAnew()", 36);
        x.due("place(15, 17, 0)", 3 + 15 + 15 + 6 + 2).due("amount(0)", 2).due("amount(1)", 3).due("amount(3)", 36);
    }

    // ---------------------------------------------------------------- promise 11

    private static void removeRanges() {
        new Scene().refusesIndex("remove(0)");
        school().refusesIndex("remove(-1)", "remove(3)", "remove(MIN)", "remove(MAX)").refusesState("remove(0)", "remove(2)");
        Scene x = full();
        x.refusesIndex("remove(16)").due("remove(15)", 35).due("remove(0)", 30).refusesElement("placeOf(0)", "placeOf(15)");
        x.refusesState("remove(0)", "remove(15)");
    }

    private static void removeOfUnplacedLockedAndPast() {
        Scene x = school().refusesState("remove(1)").then("place(1, 4, 0)", "lock(1)");
        x.refusesState("remove(1)").with("unlock(1)").due("remove(1)", 0);
        x.then("passDay()").refusesState("remove(1)").then("unlock(1)").refusesState("remove(1)");
        x.then("place(0, 6, 0)").due("remove(0)", 1).refusesState("remove(0)").due("placeOf(1)", 32);
    }

    private static void removeReturnsTheCost() {
        Scene x = full();
        int[] costs = {33, 29, 26, 24, 23, 22};
        for (int i = 0; i < 6; i++) {
            x.due("remove(" + i + ")", costs[i]).due("cost()", costs[i]).due("costAnew()", costs[i]);
        }
        x.due("remove(7)", 18).due("remove(6)", 13).due("fill()", 0);
    }

    // ---------------------------------------------------------------- promises 12 to 14

    private static void lockRanges() {
        new Scene().refusesIndex("lock(0)");
        school().refusesIndex("lock(-1)", "lock(3)", "lock(MIN)", "lock(MAX)").refusesState("lock(0)", "lock(2)");
        full().refusesIndex("lock(16)", "lock(-1)").due("lock(15)", 1).due("lock(0)", 2);
    }

    private static void lockOfUnplacedLockedAndPast() {
        Scene x = school().refusesState("lock(0)").then("place(0, 5, 0)").due("lock(0)", 1).refusesState("lock(0)");
        x.then("place(1, 0, 1)", "passDay()").refusesState("lock(0)", "lock(1)", "lock(2)");
        x.then("unlock(0)").refusesState("lock(0)").due("isLocked(0)", false);
        x.then("place(2, 6, 0)").due("lock(2)", 1).due("isLocked(2)", true);
        x.then("passDay()", "passDay()", "passDay()", "nextWeek()").due("lock(0)", 2).due("lock(1)", 3);
    }

    private static void unlockRanges() {
        new Scene().refusesIndex("unlock(0)");
        school().refusesIndex("unlock(-1)", "unlock(3)", "unlock(MIN)", "unlock(MAX)").refusesState("unlock(0)", "unlock(2)");
        full().refusesIndex("unlock(16)").refusesState("unlock(15)").then("lock(15)").due("unlock(15)", 0);
    }

    private static void unlockOfWhatIsNotLocked() {
        Scene x = school().refusesState("unlock(0)").then("place(0, 5, 0)").refusesState("unlock(0)");
        x.then("lock(0)").due("unlock(0)", 0).refusesState("unlock(0)").then("lock(0)", "passDay()");
        x.due("unlock(0)", 0).refusesState("unlock(0)").due("placeOf(0)", 40);
    }

    private static void lockAndUnlockAll() {
        Scene x = full();
        for (int i = 0; i < 16; i++) {
            x.due("lock(" + i + ")", i + 1);
        }
        x.refusesState("lock(0)", "lock(15)", "place(0, 16, 0)", "remove(15)").due("improve(20)", 38).due("fill()", 0);
        x.refusesSupport("close(0)", "ill(0, 0)", "ill(0, 2)").due("ill(0, 3)", 0);
        for (int i = 15; i >= 0; i--) {
            x.due("isLocked(" + i + ")", true).due("unlock(" + i + ")", i).due("isLocked(" + i + ")", false);
        }
        x.refusesState("unlock(0)", "unlock(15)");
    }

    private static void isLockedRanges() {
        new Scene().refusesIndex("isLocked(0)");
        Scene x = school().refusesIndex("isLocked(-1)", "isLocked(3)", "isLocked(MIN)", "isLocked(MAX)");
        x.due("isLocked(0)", false).due("isLocked(2)", false).then("place(2, 27, 1)", "lock(2)").due("isLocked(2)", true);
        x.due("isLocked(0)", false).due("isLocked(1)", false);
        x.then("passDay()").due("isLocked(2)", true);
        full().then("lock(15)").due("isLocked(15)", true).due("isLocked(14)", false).refusesIndex("isLocked(16)");
    }
}
