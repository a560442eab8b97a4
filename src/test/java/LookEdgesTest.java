/** The boundary cases of the promises 15 to 22: looking at the table, possible and cheapest places, the hardest. */
public final class LookEdgesTest {
    public static void main(String[] args) {
        placeOfRanges();
        placeOfPlacedOrNot();
        groupAtRanges();
        groupAtEachHour();
        teacherAtRanges();
        teacherAtEachHour();
        possibleRanges();
        possibleFromNoneToAll();
        possibleOwnPlaceIncluded();
        possibleAtRanges();
        possibleAtFirstAndLast();
        cheapestRanges();
        cheapestWhereNoneIsPossible();
        cheapestOfSeveral();
        cheapestWhereItIs();
        costWithRanges();
        costWithOrderOfExceptions();
        costWithBarredByEachLetter();
        costWithEachPiece();
        hardestOfNone();
        hardestOfSeveral();
        hardestWithoutPlaces();
        Check.end();
    }

    private static Scene rooms(int count) {
        Scene x = new Scene();
        for (int i = 0; i < count; i++) {
            x.then("addRoom(0, 0, 20)");
        }
        return x.then("addTeacher(0)", "addGroup(20)");
    }

    /** Lessons 0 to 2, of 1 to 3 hours, with the same people. */
    private static Scene lengths(int rooms) {
        return rooms(rooms).then("addLesson(0, 0, 0, 1, 0)", "addLesson(0, 0, 0, 2, 0)", "addLesson(0, 0, 0, 3, 0)");
    }

    private static Scene full() {
        Scene x = rooms(8);
        for (int i = 0; i < 16; i++) {
            x.then("addLesson(0, 0, 0, 1, 0)");
        }
        for (int i = 1; i < 8; i++) {
            x.then("addTeacher(0)", "addGroup(20)");
        }
        return x;
    }

    // ---------------------------------------------------------------- promise 15

    private static void placeOfRanges() {
        new Scene().refusesIndex("placeOf(0)", "placeOf(-1)");
        lengths(1).refusesIndex("placeOf(-1)", "placeOf(3)", "placeOf(MIN)", "placeOf(MAX)");
        full().refusesElement("placeOf(0)", "placeOf(15)").refusesIndex("placeOf(16)");
    }

    private static void placeOfPlacedOrNot() {
        Scene x = full().refusesElement("placeOf(15)").then("place(15, 29, 7)").due("placeOf(15)", 239);
        x.then("place(15, 0, 0)").due("placeOf(15)", 0).then("place(15, 0, 7)").due("placeOf(15)", 7);
        x.then("place(15, 29, 0)").due("placeOf(15)", 232).then("lock(15)").due("placeOf(15)", 232);
        x.then("unlock(15)", "remove(15)").refusesElement("placeOf(15)");
    }

    // ---------------------------------------------------------------- promises 16 and 17

    private static void groupAtRanges() {
        new Scene().refusesIndex("groupAt(0, 0)", "groupAt(0, 30)", "groupAt(-1, -1)");
        Scene x = lengths(1).refusesIndex("groupAt(-1, 0)", "groupAt(1, 0)", "groupAt(MIN, 0)", "groupAt(MAX, 0)");
        x.refusesIndex("groupAt(1, 30)", "groupAt(-1, -1)");
        x.refusesArgument("groupAt(0, -1)", "groupAt(0, 30)", "groupAt(0, MIN)", "groupAt(0, MAX)");
        x.refusesElement("groupAt(0, 0)", "groupAt(0, 29)");
        full().refusesElement("groupAt(7, 29)").refusesIndex("groupAt(8, 29)").refusesArgument("groupAt(7, 30)");
    }

    private static void groupAtEachHour() {
        Scene x = lengths(1).then("addGroup(20)", "addLesson(1, 0, 0, 1, 0)");
        x.then("place(0, 0, 0)", "place(1, 28, 0)", "place(2, 2, 0)", "place(3, 1, 0)");
        int[] hours = {0, -1, 2, 2, 2, -1};
        for (int slot = 0; slot < 30; slot++) {
            int want = slot < 6 ? hours[slot] : slot >= 28 ? 1 : -1;
            if (want < 0) {
                x.refusesElement("groupAt(0, " + slot + ")");
            } else {
                x.due("groupAt(0, " + slot + ")", want);
            }
        }
        x.due("groupAt(1, 1)", 3).refusesElement("groupAt(1, 0)", "groupAt(1, 2)");
        x.then("passDay()").due("groupAt(0, 0)", 0).then("remove(1)").refusesElement("groupAt(0, 28)", "groupAt(0, 29)");
    }

    private static void teacherAtRanges() {
        new Scene().refusesIndex("teacherAt(0, 0)", "teacherAt(0, 30)", "teacherAt(-1, -1)");
        Scene x = lengths(1).refusesIndex("teacherAt(-1, 0)", "teacherAt(1, 0)", "teacherAt(MIN, 0)", "teacherAt(MAX, 0)");
        x.refusesIndex("teacherAt(1, 30)", "teacherAt(-1, -1)");
        x.refusesArgument("teacherAt(0, -1)", "teacherAt(0, 30)", "teacherAt(0, MIN)", "teacherAt(0, MAX)");
        x.refusesElement("teacherAt(0, 0)", "teacherAt(0, 29)");
        full().refusesElement("teacherAt(7, 29)").refusesIndex("teacherAt(8, 29)").refusesArgument("teacherAt(7, 30)");
    }

    private static void teacherAtEachHour() {
        Scene x = lengths(1).then("addTeacher(0)", "addLesson(0, 1, 0, 1, 0)");
        x.then("place(0, 5, 0)", "place(1, 6, 0)", "place(2, 27, 0)", "place(3, 8, 0)");
        int[] late = {-1, 0, 1, 1, -1};
        for (int slot = 0; slot < 30; slot++) {
            int want = slot >= 4 && slot < 9 ? late[slot - 4] : slot >= 27 ? 2 : -1;
            if (want < 0) {
                x.refusesElement("teacherAt(0, " + slot + ")");
            } else {
                x.due("teacherAt(0, " + slot + ")", want);
            }
        }
        x.due("teacherAt(1, 8)", 3).refusesElement("teacherAt(1, 7)", "teacherAt(1, 9)");
        x.then("passDay()").due("teacherAt(0, 5)", 0).then("remove(2)").refusesElement("teacherAt(0, 27)", "teacherAt(0, 29)");
    }

    // ---------------------------------------------------------------- promises 18 and 19

    private static void possibleRanges() {
        new Scene().refusesIndex("possible(0)", "possible(-1)");
        lengths(1).refusesIndex("possible(-1)", "possible(3)", "possible(MIN)", "possible(MAX)");
        full().refusesIndex("possible(16)").due("possible(15)", 240);
    }

    private static void possibleFromNoneToAll() {
        lengths(0).due("possible(0)", 0).due("possible(2)", 0);
        lengths(1).due("possible(0)", 30).due("possible(1)", 25).due("possible(2)", 20);
        Scene x = lengths(8).due("possible(0)", 240).due("possible(1)", 200).due("possible(2)", 160);
        x.then("passDay()", "passDay()", "passDay()", "passDay()");
        x.due("possible(0)", 48).due("possible(1)", 40).due("possible(2)", 32);
        x.then("ill(0, 4)").due("possible(0)", 0).due("possible(2)", 0).then("nextWeek()").due("possible(0)", 192);
        for (int room = 0; room < 8; room++) {
            x.then("close(" + room + ")").due("possible(0)", 24 * (7 - room));
        }
    }

    private static void possibleOwnPlaceIncluded() {
        Scene x = lengths(1).then("place(2, 0, 0)").due("possible(2)", 20).due("possible(0)", 27).due("possible(1)", 22);
        x.then("lock(2)").due("possible(2)", 20).then("passDay()").due("possible(2)", 16).due("possible(0)", 24);
    }

    private static void possibleAtRanges() {
        new Scene().refusesIndex("possibleAt(0, 0)", "possibleAt(0, -1)", "possibleAt(-1, -1)");
        Scene x = lengths(1).refusesIndex("possibleAt(-1, 0)", "possibleAt(3, 0)", "possibleAt(MIN, 0)", "possibleAt(MAX, 0)");
        x.refusesIndex("possibleAt(3, -1)", "possibleAt(3, 30)", "possibleAt(-1, MAX)");
        x.refusesElement("possibleAt(0, -1)", "possibleAt(0, 30)", "possibleAt(0, MIN)", "possibleAt(0, MAX)");
        x.refusesElement("possibleAt(2, 20)", "possibleAt(1, 25)").due("possibleAt(2, 19)", 216).due("possibleAt(1, 24)", 224);
        lengths(0).refusesElement("possibleAt(0, 0)", "possibleAt(2, 0)", "possibleAt(0, -1)");
        x.then("close(0)").refusesElement("possibleAt(0, 0)", "possibleAt(2, 0)");
    }

    private static void possibleAtFirstAndLast() {
        Scene x = full().due("possibleAt(15, 0)", 0).due("possibleAt(15, 239)", 239).refusesElement("possibleAt(15, 240)");
        for (int index = 0; index < 240; index += 17) {
            x.due("possibleAt(0, " + index + ")", index);
        }
        x.refusesIndex("possibleAt(16, 0)").then("place(0, 0, 3)");
        x.due("possibleAt(0, 0)", 0).due("possibleAt(0, 3)", 3).due("possibleAt(0, 239)", 239);
        x.due("possibleAt(1, 0)", 8).due("possibleAt(1, 231)", 239).refusesElement("possibleAt(1, 232)");
        x.then("close(1)").due("possibleAt(0, 1)", 2).due("possibleAt(0, 209)", 239).refusesElement("possibleAt(0, 210)");
        x.then("passDay()").due("possibleAt(0, 0)", 48).due("possibleAt(0, 167)", 239).refusesElement("possibleAt(0, 168)");
    }

    // ---------------------------------------------------------------- promise 20

    private static void cheapestRanges() {
        new Scene().refusesIndex("cheapest(0)", "cheapest(-1)");
        lengths(1).refusesIndex("cheapest(-1)", "cheapest(3)", "cheapest(MIN)", "cheapest(MAX)").due("cheapest(2)", 0);
        full().refusesIndex("cheapest(16)").due("cheapest(15)", 0);
    }

    private static void cheapestWhereNoneIsPossible() {
        lengths(0).refusesElement("cheapest(0)", "cheapest(2)");
        Scene x = lengths(2).then("close(0)").due("cheapest(0)", 1).then("close(1)").refusesElement("cheapest(0)");
        x.then("open(0)").due("cheapest(0)", 0).then("ill(0, 0)", "ill(0, 1)", "ill(0, 2)", "ill(0, 3)");
        x.due("cheapest(0)", 8 * 24).then("ill(0, 4)").refusesElement("cheapest(0)", "cheapest(1)");
        Scene last = lengths(1).then("passDay()", "passDay()", "passDay()", "passDay()", "addTeacher(0)", "addGroup(20)");
        last.then("addLesson(1, 1, 0, 3, 0)", "place(3, 24, 0)").due("cheapest(2)", 8 * 27);
        last.then("place(3, 25, 0)").refusesElement("cheapest(2)").due("cheapest(1)", 8 * 28).due("cheapest(0)", 8 * 24);
    }

    private static void cheapestOfSeveral() {
        Scene x = rooms(8).then("addLesson(0, 0, 0, 1, 0)");
        for (int slot = 0; slot < 29; slot++) {
            x.then("setWish(0, " + slot + ", 2)");
        }
        x.due("cheapest(0)", 8 * 29).then("setWish(0, 29, 1)").due("cheapest(0)", 0).then("setWish(0, 28, 1)");
        x.due("cheapest(0)", 8 * 28).then("close(0)").due("cheapest(0)", 8 * 28 + 1);
        x.then("setWeight(2, 0)").due("cheapest(0)", 1).then("setWeight(1, 0)", "setWish(0, 0, 9)").due("cheapest(0)", 1);
        x.then("setWeight(2, 9)").due("cheapest(0)", 8 * 28 + 1).then("setWish(0, 29, 0)").due("cheapest(0)", 8 * 29 + 1);
    }

    private static void cheapestWhereItIs() {
        Scene x = rooms(2).then("addLesson(0, 0, 0, 1, 0)", "place(0, 0, 0)").due("cheapest(0)", 0);
        x.then("place(0, 0, 1)").due("cheapest(0)", 0).then("setWish(0, 0, 1)").due("cheapest(0)", 8);
        x.then("lock(0)").due("cheapest(0)", 8).then("passDay()").due("cheapest(0)", 48);
        Scene only = lengths(1).then("addTeacher(30)", "addLesson(0, 1, 0, 3, 0)", "place(3, 3, 0)", "place(2, 0, 0)");
        only.then("setWish(1, 5, 9)").due("possible(3)", 1).due("cheapest(3)", 24);
    }

    // ---------------------------------------------------------------- promise 21

    private static void costWithRanges() {
        Scene x = lengths(2);
        x.refusesIndex("costWith(-1, 0, 0)", "costWith(3, 0, 0)", "costWith(MIN, 0, 0)", "costWith(MAX, 0, 0)");
        x.refusesArgument("costWith(0, -1, 0)", "costWith(0, 30, 0)", "costWith(0, MIN, 0)", "costWith(0, MAX, 0)");
        x.refusesArgument("costWith(0, 0, -1)", "costWith(0, 0, 2)", "costWith(0, 0, MIN)", "costWith(0, 0, MAX)");
        x.due("costWith(0, 0, 0)", 0).due("costWith(0, 29, 1)", 1).due("costWith(2, 27, 1)", 1).refusesSupport("costWith(2, 28, 1)");
        full().due("costWith(15, 29, 7)", 1).refusesArgument("costWith(15, 29, 8)").refusesIndex("costWith(16, 29, 7)");
    }

    private static void costWithOrderOfExceptions() {
        new Scene().refusesIndex("costWith(0, 0, 0)", "costWith(0, 30, 8)", "costWith(-1, -1, -1)");
        lengths(0).refusesArgument("costWith(0, 0, 0)", "costWith(0, 30, 0)").refusesIndex("costWith(3, 0, 0)");
        Scene x = lengths(1).then("close(0)");
        x.refusesIndex("costWith(3, 30, 0)", "costWith(3, 0, 1)", "costWith(3, 0, 0)", "costWith(-1, -1, -1)");
        x.refusesArgument("costWith(0, 30, 0)", "costWith(0, 0, 1)", "costWith(2, 30, 1)").refusesSupport("costWith(0, 0, 0)");
    }

    private static void costWithBarredByEachLetter() {
        Scene x = PlacesEdgesTest.everyLetter();
        String[] places = {"11, 0", "0, 0", "24, 0", "6, 1", "6, 2", "6, 3", "6, 0", "12, 0", "18, 0", "13, 4"};
        for (int letter = 0; letter < 10; letter++) {
            x.due("reason(0, " + places[letter] + ")", "hpokscrtgv".charAt(letter));
            x.refusesSupport("costWith(0, " + places[letter] + ")");
        }
        x.due("costWith(0, 7, 0)", 0);
    }

    /** Lesson 0 in slot 8: lesson 1, of its group and course, would make gaps, a late hour, wishes and a crowd. */
    private static void costWithEachPiece() {
        Scene x = lengths(1).then("place(0, 8, 0)", "setWish(0, 10, 3)", "setWish(0, 11, 4)");
        x.due("costWith(1, 10, 0)", 1 + 1 + 7 + 1).due("costWith(1, 9, 0)", 3 + 1).due("costWith(1, 6, 0)", 1);
        x.due("costWith(1, 16, 0)", 1).due("costWith(0, 8, 0)", 0).due("costWith(0, 5, 0)", 1).due("cost()", 0);
        x.then("setWeight(0, 9)").due("costWith(1, 10, 0)", 9 + 1 + 7 + 1).then("setWeight(1, 9)", "setWeight(2, 0)");
        x.due("costWith(1, 10, 0)", 9 + 9 + 1).then("setWeight(3, 0)").due("costWith(1, 10, 0)", 18).due("cost()", 0);
        x.then("place(1, 10, 0)").due("costWith(1, 16, 0)", 9).due("costWith(1, 10, 0)", 18).due("costWith(0, 9, 0)", 9);
        x.then("lock(1)").due("costWith(1, 6, 0)", 0).due("cost()", 18);
    }

    // ---------------------------------------------------------------- promise 22

    private static void hardestOfNone() {
        new Scene().refusesElement("hardest()");
        rooms(1).refusesElement("hardest()").then("addLesson(0, 0, 0, 1, 0)").due("hardest()", 0);
        Scene x = lengths(1).then("place(0, 0, 0)", "place(1, 6, 0)").due("hardest()", 2);
        x.then("place(2, 12, 0)").refusesElement("hardest()").then("remove(1)").due("hardest()", 1);
        x.then("place(1, 6, 0)", "lock(1)", "passDay()").refusesElement("hardest()");
    }

    private static void hardestOfSeveral() {
        full().due("hardest()", 0).then("place(0, 0, 0)").due("hardest()", 1).then("remove(0)").due("hardest()", 0);
        lengths(1).due("hardest()", 2).then("place(2, 0, 0)").due("hardest()", 1).then("place(1, 6, 0)").due("hardest()", 0);
        Scene even = lengths(1).then("addTeacher(1)", "addLesson(0, 1, 0, 1, 0)", "addLesson(0, 1, 0, 2, 0)");
        even.due("possible(2)", 20).due("possible(4)", 20).due("hardest()", 2).then("place(2, 27, 0)");
        even.due("possible(4)", 17).due("hardest()", 4).then("place(4, 6, 0)").due("possible(3)", 19).due("possible(1)", 20);
        even.due("hardest()", 3);
    }

    private static void hardestWithoutPlaces() {
        lengths(0).due("hardest()", 0);
        Scene x = lengths(1).then("addLesson(0, 0, 1, 1, 0)", "addLesson(0, 0, 1, 1, 0)").due("hardest()", 3);
        x.then("addTeacher(31)", "addLesson(0, 1, 0, 3, 0)").due("hardest()", 3).then("addRoom(0, 1, 20)").due("hardest()", 5);
    }
}
