/** The boundary cases of the promises 31 to 37: illness, closed and opened rooms, days, weeks and accounts. */
public final class RepairEdgesTest {
    public static void main(String[] args) {
        illRanges();
        illOrderOfExceptions();
        illOnEachDay();
        illWithLockedLessons();
        illRepairsOnlyTheseLessons();
        illWithoutPlaces();
        closeRanges();
        closeOrderOfExceptions();
        closeWithLockedLessons();
        closeRepairsOnlyTheseLessons();
        closeAllRooms();
        closeWithAllLessons();
        repairHardestFirst();
        repairTriesOnce();
        openRanges();
        openFromNoneToAll();
        openRepairsNothing();
        passDayToTheLast();
        nextWeekOnTheLastDayAlone();
        nextWeekCountsWeeks();
        nextWeekBooksLateHours();
        nextWeekToAtMostNine();
        nextWeekKeepsTheTable();
        nextWeekRepairsAfterBooking();
        todayThroughTheWeeks();
        accountRanges();
        Check.end();
    }

    /**
     * Two rooms; the teachers 0 and 1 take turns with lessons of one hour for the group 0. The teacher 1 has the
     * day 3 off, so that of two lessons like these the one with the odd number is the harder one.
     */
    private static Scene school(int lessons) {
        Scene x = new Scene("addRoom(0, 0, 20)", "addRoom(0, 0, 20)", "addTeacher(0)", "addTeacher(8)", "addGroup(20)");
        for (int i = 0; i < lessons; i++) {
            x.then("addLesson(0, " + i % 2 + ", 0, 1, " + i % 10 + ")");
        }
        return x;
    }

    private static Scene days(Scene x, int days) {
        for (int day = 0; day < days; day++) {
            x.then("passDay()");
        }
        return x;
    }

    private static Scene places(Scene x, int... places) {
        for (int i = 0; i < places.length; i++) {
            if (places[i] < 0) {
                x.refusesElement("placeOf(" + i + ")");
            } else {
                x.due("placeOf(" + i + ")", places[i]);
            }
        }
        return x;
    }

    // ---------------------------------------------------------------- promise 31

    private static void illRanges() {
        new Scene().refusesIndex("ill(0, 0)");
        Scene x = school(0);
        x.refusesIndex("ill(-1, 0)", "ill(2, 0)", "ill(MIN, 0)", "ill(MAX, 0)");
        x.refusesArgument("ill(0, -1)", "ill(0, 5)", "ill(0, MIN)", "ill(0, MAX)");
        x.due("ill(0, 0)", 0).due("ill(0, 4)", 0).due("ill(1, 4)", 0);
        Scene full = new Scene();
        for (int i = 0; i < 8; i++) {
            full.then("addTeacher(0)");
        }
        full.due("ill(7, 4)", 0).refusesIndex("ill(8, 4)");
    }

    private static void illOrderOfExceptions() {
        new Scene().refusesIndex("ill(0, 5)", "ill(-1, -1)");
        Scene x = school(2).then("place(0, 6, 0)", "lock(0)");
        x.refusesIndex("ill(2, 5)", "ill(2, 3)", "ill(-1, -1)").refusesArgument("ill(0, 5)", "ill(1, 5)", "ill(1, -1)");
        x.refusesState("ill(1, 3)").refusesSupport("ill(0, 1)").due("ill(1, 0)", 0).refusesState("ill(1, 0)");
        x.then("passDay()").refusesArgument("ill(1, 0)", "ill(0, 0)").refusesIndex("ill(2, 0)").refusesSupport("ill(0, 1)");
        x.then("passDay()").refusesArgument("ill(0, 1)", "ill(0, 0)").due("ill(0, 2)", 0);
        days(x, 2).refusesArgument("ill(1, 3)", "ill(0, 3)").due("ill(0, 4)", 0).refusesState("ill(0, 4)");
        x.then("nextWeek()").refusesState("ill(0, 4)", "ill(1, 3)", "ill(1, 0)").refusesSupport("ill(0, 1)").due("ill(0, 0)", 0);
    }

    private static void illOnEachDay() {
        for (int day = 0; day < 5; day++) {
            Scene x = days(school(1).then("place(0, " + (6 * day + 5) + ", 1)"), day);
            if (day > 0) {
                x.refusesArgument("ill(0, " + (day - 1) + ")");
            }
            x.due("ill(0, " + day + ")", day < 4 ? 0 : 1).due("reason(0, " + 6 * day + ", 0)", 'o');
            x.due("reason(0, " + (6 * day + 5) + ", 1)", 'o').refusesState("ill(0, " + day + ")");
            places(x, day < 4 ? 48 * (day + 1) : -1);
        }
    }

    private static void illWithLockedLessons() {
        Scene x = school(4).then("place(0, 6, 0)", "place(2, 7, 0)", "place(1, 8, 0)", "lock(2)");
        x.refusesSupport("ill(0, 1)").due("reason(0, 6, 0)", '-').due("ill(1, 1)", 0);
        places(x, 48, 0, 56);
        x.then("unlock(2)").due("ill(0, 1)", 0);
        places(x, 8, 0, 16);
        Scene other = school(4).then("place(0, 0, 0)", "place(2, 6, 0)", "place(1, 7, 0)", "lock(0)", "lock(1)");
        places(other.due("ill(0, 1)", 0), 0, 56, 8);
    }

    private static void illRepairsOnlyTheseLessons() {
        Scene x = school(6).then("place(0, 6, 0)", "place(1, 7, 0)", "place(2, 12, 0)", "place(4, 8, 1)");
        x.then("setWish(0, 12, 9)", "setWish(1, 7, 9)").due("ill(0, 1)", 0);
        places(x, 0, 56, 96, -1, 8, -1);
        x.due("hardest()", 3).due("account(0)", 0);
    }

    private static void illWithoutPlaces() {
        Scene x = school(3).then("place(0, 24, 0)", "place(2, 25, 0)");
        for (int day = 0; day < 4; day++) {
            x.due("ill(0, " + day + ")", 0);
        }
        x.due("ill(0, 4)", 2).due("possible(0)", 0).due("fill()", 2);
        places(x, -1, 0, -1);
        x.refusesState("ill(0, 0)", "ill(0, 4)");
    }

    // ---------------------------------------------------------------- promise 32

    private static void closeRanges() {
        new Scene().refusesIndex("close(0)");
        school(0).refusesIndex("close(-1)", "close(2)", "close(MIN)", "close(MAX)").due("close(0)", 0).due("close(1)", 0);
    }

    private static void closeOrderOfExceptions() {
        Scene x = school(1).then("place(0, 0, 0)", "lock(0)").refusesSupport("close(0)").due("close(1)", 0);
        x.refusesState("close(1)").refusesIndex("close(2)").then("unlock(0)").due("close(0)", 1).refusesState("close(0)", "close(1)");
    }

    private static void closeWithLockedLessons() {
        Scene x = school(3).then("place(0, 0, 0)", "place(1, 6, 0)", "place(2, 7, 1)", "lock(1)", "lock(2)");
        x.refusesSupport("close(0)", "close(1)").due("reason(0, 0, 0)", '-').then("unlock(1)").due("close(0)", 0);
        places(x, 9, 1, 57).refusesSupport("close(1)");
        Scene past = school(3).then("place(0, 0, 0)", "lock(0)", "place(1, 6, 0)", "passDay()").refusesSupport("close(0)");
        past.then("unlock(0)").due("close(0)", 0);
        places(past, 0, 49);
    }

    private static void closeRepairsOnlyTheseLessons() {
        Scene x = school(5).then("place(0, 5, 0)", "place(1, 6, 0)", "place(2, 29, 0)", "place(3, 7, 1)", "passDay()");
        x.then("setWish(1, 7, 9)").due("close(0)", 0);
        places(x, 40, 49, 65, 57, -1).due("cost()", 10).due("costAnew()", 10);
    }

    private static void closeAllRooms() {
        Scene x = new Scene("addTeacher(0)", "addGroup(20)", "addLesson(0, 0, 0, 1, 0)");
        for (int i = 0; i < 8; i++) {
            x.then("addRoom(0, 0, 20)");
        }
        x.then("place(0, 0, 0)");
        for (int i = 0; i < 8; i++) {
            x.due("close(" + i + ")", i < 7 ? 0 : 1).refusesState("close(" + i + ")");
        }
        x.refusesElement("placeOf(0)").due("possible(0)", 0).due("cost()", 0).due("reasons(0, 0)", 32);
    }

    private static void closeWithAllLessons() {
        Scene x = school(16);
        for (int i = 0; i < 16; i++) {
            x.then("place(" + i + ", " + (i < 12 ? i : i + 12) + ", 0)");
        }
        x.with().due("close(0)", 0).due("placeOf(0)", 73).due("placedShare()", 1.0f).due("isSound()", true);
        x.then("close(1)").due("close(0)", 16).due("placedShare()", 0.0f).due("cost()", 0);
        x.due("open(1)", 1).due("fill()", 0).due("close(1)", 16);
    }

    // ---------------------------------------------------------------- repairs

    /** The rooms of the house 0 are closed one after the other; the lesson of three hours has the fewest places. */
    private static void repairHardestFirst() {
        Scene x = new Scene("addRoom(0, 0, 20)", "addRoom(0, 0, 20)", "addTeacher(30)", "addGroup(20)", "setWeight(3, 0)");
        x.then("addLesson(0, 0, 0, 1, 0)", "addLesson(0, 0, 0, 1, 0)", "addLesson(0, 0, 0, 3, 0)", "place(0, 0, 0)");
        x.then("place(1, 1, 0)", "place(2, 2, 0)").due("close(0)", 0);
        places(x, 25, 33, 1);
        Scene even = new Scene("addRoom(0, 0, 20)", "addRoom(0, 0, 20)", "addTeacher(30)", "addGroup(20)");
        even.then("addLesson(0, 0, 0, 2, 0)", "addLesson(0, 0, 0, 2, 1)", "place(0, 4, 0)", "place(1, 0, 0)").due("close(0)", 0);
        places(even, 1, 17);
    }

    /** All of them are removed before one is tried, and one that finds no place is not tried again. */
    private static void repairTriesOnce() {
        Scene x = new Scene("addRoom(0, 0, 20)", "addRoom(0, 0, 20)", "addTeacher(30)", "addTeacher(30)", "addGroup(20)");
        x.then("addGroup(20)", "addLesson(0, 0, 0, 3, 0)", "addLesson(0, 0, 0, 3, 1)", "addLesson(1, 1, 0, 2, 2)");
        x.then("addLesson(1, 1, 0, 1, 3)", "place(0, 0, 0)", "place(1, 3, 0)", "place(2, 2, 1)", "lock(2)").due("close(0)", 2);
        places(x, -1, -1, 17, -1).due("hardest()", 0);
        Scene swap = new Scene("addRoom(0, 0, 20)", "addRoom(0, 0, 20)", "addTeacher(30)", "addGroup(20)", "setWeight(3, 0)");
        swap.then("addLesson(0, 0, 0, 3, 0)", "addLesson(0, 0, 0, 3, 0)", "place(0, 3, 0)", "place(1, 0, 0)").due("close(0)", 0);
        places(swap, 1, 25);
    }

    // ---------------------------------------------------------------- promise 33

    private static void openRanges() {
        new Scene().refusesIndex("open(0)");
        Scene x = school(0).refusesIndex("open(-1)", "open(2)", "open(MIN)", "open(MAX)").refusesState("open(0)", "open(1)");
        x.then("close(1)").refusesState("open(0)").due("open(1)", 2).refusesState("open(1)");
    }

    private static void openFromNoneToAll() {
        Scene x = new Scene();
        for (int i = 0; i < 8; i++) {
            x.then("addRoom(0, 0, 20)", "close(" + i + ")");
        }
        x.refusesState("close(0)", "close(7)");
        for (int i = 7; i >= 0; i--) {
            x.due("open(" + i + ")", 8 - i).refusesState("open(" + i + ")");
        }
        x.refusesIndex("open(8)");
    }

    private static void openRepairsNothing() {
        Scene x = school(2).then("place(0, 0, 0)", "close(1)").due("close(0)", 1).due("open(1)", 1).due("possible(0)", 30);
        places(x, -1, -1).due("open(0)", 2).due("possible(0)", 60);
        places(x, -1, -1);
    }

    // ---------------------------------------------------------------- promises 34 to 37

    private static void passDayToTheLast() {
        Scene x = new Scene().due("today()", 0);
        for (int day = 1; day < 5; day++) {
            x.due("passDay()", day).due("today()", day);
        }
        x.refusesState("passDay()").due("today()", 4).then("nextWeek()").due("passDay()", 1);
    }

    private static void nextWeekOnTheLastDayAlone() {
        Scene x = school(1).then("place(0, 5, 0)");
        for (int day = 0; day < 4; day++) {
            x.refusesState("nextWeek()").due("account(0)", 0).then("passDay()");
        }
        x.due("nextWeek()", 1).due("account(0)", 1).refusesState("nextWeek()").due("account(0)", 1);
    }

    private static void nextWeekCountsWeeks() {
        Scene x = new Scene();
        for (int week = 1; week <= 20; week++) {
            days(x, 4).due("nextWeek()", week).due("today()", 0);
        }
        Termgrid grid = new Termgrid();
        for (int call = 1; call <= 512; call++) {
            int answer = call % 5 == 0 ? grid.nextWeek() : grid.passDay();
            Check.due("the call " + call + " of 512", answer, call % 5 == 0 ? call / 5 : call % 5);
        }
    }

    private static void nextWeekBooksLateHours() {
        Scene x = school(0).then("addTeacher(0)", "addTeacher(0)", "addGroup(20)", "addLesson(0, 0, 0, 1, 0)");
        x.then("addLesson(0, 0, 0, 2, 1)", "addLesson(0, 0, 0, 3, 2)", "addLesson(1, 2, 0, 1, 0)", "addLesson(1, 3, 0, 1, 0)");
        x.then("place(0, 5, 0)", "place(1, 10, 0)", "place(2, 27, 0)", "place(3, 10, 1)");
        days(x, 4).due("nextWeek()", 1).due("account(0)", 3).due("account(1)", 0).due("account(2)", 0).due("account(3)", 0);
        x.due("amount(1)", 12).then("remove(0)", "place(1, 9, 0)", "lock(2)", "place(3, 11, 1)").due("amount(1)", 4 + 1);
        days(x, 4).due("nextWeek()", 2).due("account(0)", 4).due("account(2)", 1).due("account(3)", 0).due("amount(1)", 5 + 2);
    }

    /** Three late hours of one teacher each week: 3, 6, 9, and no more; two of another one: 2, 4, 6, 8, 9. */
    private static void nextWeekToAtMostNine() {
        Scene x = school(0).then("addTeacher(0)", "addGroup(20)");
        for (int i = 0; i < 5; i++) {
            int people = i < 3 ? 0 : 1;
            x.then("addLesson(" + people + ", " + 2 * people + ", 0, 1, 0)", "place(" + i + ", " + (6 * i + 5) + ", 0)");
        }
        int[] first = {3, 6, 9, 9, 9, 9};
        int[] second = {2, 4, 6, 8, 9, 9};
        for (int week = 0; week < 6; week++) {
            days(x, 4).due("nextWeek()", week + 1).due("account(0)", first[week]).due("account(2)", second[week]);
            int late = 3 * (1 + first[week]) + 2 * (1 + second[week]);
            x.due("account(1)", 0).due("amount(1)", late).due("cost()", late).due("costAnew()", late);
        }
    }

    private static void nextWeekKeepsTheTable() {
        Scene x = school(6).then("place(0, 0, 0)", "place(1, 6, 1)", "place(2, 29, 0)", "place(3, 28, 1)", "lock(0)", "lock(3)");
        x.then("save()");
        days(x, 4).refusesState("remove(0)", "remove(1)").due("nextWeek()", 1);
        places(x, 0, 49, 232, 225, -1, -1).due("isLocked(0)", true).due("isLocked(3)", true).due("isLocked(1)", false);
        x.due("placeIn(0, 2)", 232).due("remove(1)", 2).refusesState("remove(0)").then("unlock(0)").due("remove(0)", 2);
    }

    /** Lesson 0 is past when its room is closed: the week ends with its late hour, and then it is repaired. */
    private static void nextWeekRepairsAfterBooking() {
        Scene x = school(3).then("place(0, 5, 0)", "place(1, 0, 0)", "place(2, 6, 1)", "passDay()").due("close(0)", 0);
        places(days(x, 3), 40, 0, 49).due("breaks()", 0).due("nextWeek()", 1).due("account(0)", 1).due("account(1)", 0);
        places(x, 9, 1, 49).due("cost()", 0).due("costAnew()", 0).due("breaks()", 0);
        Scene none = school(2).then("place(0, 5, 0)", "place(1, 4, 1)", "passDay()", "close(0)", "close(1)");
        places(days(none, 3), 40, 33).due("nextWeek()", 1).due("account(0)", 1);
        places(none, -1, -1).due("hardest()", 0).due("cost()", 0);
        Scene opened = days(school(1).then("place(0, 5, 0)", "passDay()", "close(0)", "open(0)"), 3).due("nextWeek()", 1);
        places(opened, 40).due("amount(1)", 2);
    }

    private static void todayThroughTheWeeks() {
        Scene x = new Scene();
        for (int call = 0; call < 11; call++) {
            x.due("today()", call % 5).then(call % 5 < 4 ? "passDay()" : "nextWeek()");
        }
    }

    private static void accountRanges() {
        new Scene().refusesIndex("account(0)", "account(-1)");
        school(0).refusesIndex("account(-1)", "account(2)", "account(MIN)", "account(MAX)").due("account(0)", 0).due("account(1)", 0);
        Scene full = new Scene("addRoom(0, 0, 20)", "addGroup(20)");
        for (int i = 0; i < 8; i++) {
            full.then("addTeacher(0)");
        }
        days(full.then("addLesson(0, 7, 0, 1, 0)", "place(0, 29, 0)"), 4).then("nextWeek()");
        full.due("account(7)", 1).due("account(6)", 0).due("account(0)", 0).refusesIndex("account(8)");
    }
}
