/** The boundary cases of the promises 25 to 30 and 43 to 45: costs, breaks, what lacks, figures, soundness. */
public final class CostEdgesTest {
    public static void main(String[] args) {
        nothingCostsNothing();
        amountRanges();
        gapsFromNoneToFour();
        gapsOfEachGroupAndDay();
        lateHoursOfEachLength();
        lateHoursWithAccounts();
        wishesOfEachHour();
        crowdsOfPairs();
        unplacedCostNothing();
        weightsFromZeroToNine();
        costliestTable();
        breaksOfNone();
        breaksNotOfPastLessons();
        lackingRanges();
        lackingWithoutRooms();
        lackingOfThirtyHours();
        lackingOfSeats();
        lackingOfClosedRooms();
        lackingOfKinds();
        lackingPlacedOrNot();
        lackingOfSmallBeforeLarge();
        placedShareFromNoneToAll();
        meanPossibleFromNoneToAll();
        soundThroughout();
        Check.end();
    }

    /** Two rooms; the lessons have one hour, and the course of their number, of the teacher 0 and the group 0. */
    private static Scene school(int lessons, int length) {
        Scene x = new Scene("addRoom(0, 0, 20)", "addRoom(0, 0, 20)", "addTeacher(0)", "addTeacher(0)");
        x.then("addGroup(20)", "addGroup(20)");
        for (int i = 0; i < lessons; i++) {
            x.then("addLesson(0, 0, 0, " + length + ", " + i % 10 + ")");
        }
        return x;
    }

    private static Scene amounts(Scene x, int gaps, int late, int wishes, int crowds) {
        x.due("amount(0)", gaps).due("amount(1)", late).due("amount(2)", wishes).due("amount(3)", crowds);
        int cost = gaps + late + wishes + crowds;
        return x.due("cost()", cost).due("costAnew()", cost);
    }

    // ---------------------------------------------------------------- promises 25 to 27

    private static void nothingCostsNothing() {
        amounts(new Scene(), 0, 0, 0, 0);
        Scene x = school(3, 2).then("setWish(0, 0, 9)", "setWeight(0, 9)", "setWeight(2, 9)");
        x.due("cost()", 0).due("costAnew()", 0).due("amount(2)", 0);
    }

    private static void amountRanges() {
        new Scene().refusesArgument("amount(-1)", "amount(4)", "amount(MIN)", "amount(MAX)").due("amount(0)", 0);
        school(1, 1).refusesArgument("amount(-1)", "amount(4)").due("amount(3)", 0);
    }

    private static void gapsFromNoneToFour() {
        for (int slot = 1; slot < 6; slot++) {
            Scene x = school(2, 1).then("place(0, 0, 0)", "place(1, " + slot + ", 0)", "setWeight(1, 0)");
            x.due("amount(0)", slot - 1).due("cost()", slot - 1).due("costAnew()", slot - 1);
        }
        Scene y = school(3, 1).then("setWeight(1, 0)", "place(0, 0, 0)", "place(1, 5, 0)").due("amount(0)", 4);
        y.due("place(2, 3, 0)", 3).due("place(2, 1, 0)", 3).due("place(2, 6, 0)", 4).due("place(1, 7, 0)", 0);
    }

    private static void gapsOfEachGroupAndDay() {
        Scene x = school(3, 1).then("place(0, 5, 0)", "place(1, 6, 0)", "setWeight(1, 0)").due("cost()", 0);
        x.then("place(1, 0, 0)").due("cost()", 4).then("place(2, 24, 0)").due("cost()", 4);
        x.then("addLesson(0, 1, 0, 1, 9)", "place(3, 29, 0)").due("cost()", 8);
        x.then("addLesson(1, 1, 0, 2, 9)", "place(4, 26, 0)").due("cost()", 8).due("amount(0)", 8).due("costAnew()", 8);
        Scene y = school(2, 3).then("place(0, 0, 0)", "place(1, 3, 0)").due("amount(0)", 0);
        y.then("addLesson(1, 1, 0, 1, 0)", "place(2, 0, 1)").due("amount(0)", 0).due("costAnew()", 1);
    }

    private static void lateHoursOfEachLength() {
        for (int length = 1; length <= 3; length++) {
            Scene x = school(1, length);
            for (int day = 0; day < 5; day++) {
                int last = 6 * day + 6 - length;
                amounts(x.then("place(0, " + last + ", 0)"), 0, 1, 0, 0);
                amounts(x.then("place(0, " + (last - 1) + ", 0)"), 0, 0, 0, 0);
            }
        }
    }

    private static void lateHoursWithAccounts() {
        Scene x = school(2, 2).then("addLesson(1, 1, 0, 1, 0)", "place(0, 4, 0)", "place(1, 10, 0)", "place(2, 17, 0)");
        x.due("amount(1)", 3);
        int[] late = {3 + 3 + 2, 5 + 5 + 3, 7 + 7 + 4, 9 + 9 + 5, 10 + 10 + 6, 10 + 10 + 7};
        for (int week = 0; week < 6; week++) {
            amounts(x.then("passDay()", "passDay()", "passDay()", "passDay()", "nextWeek()"), 0, late[week], 0, 0);
        }
        amounts(x.then("remove(0)"), 0, 10 + 7, 0, 0);
    }

    private static void wishesOfEachHour() {
        Scene x = school(1, 3).then("setWish(0, 0, 1)", "setWish(0, 1, 2)", "setWish(0, 2, 4)", "setWish(0, 3, 8)");
        x.then("setWish(1, 1, 9)");
        amounts(x.then("place(0, 0, 0)"), 0, 0, 7, 0);
        amounts(x.then("place(0, 1, 1)"), 0, 0, 14, 0);
        amounts(x.then("place(0, 2, 0)"), 0, 0, 12, 0);
        amounts(x.then("place(0, 3, 0)"), 0, 1, 8, 0);
        amounts(x.then("setWish(0, 5, 9)"), 0, 1, 17, 0);
        amounts(x.then("setWish(0, 6, 9)", "setWish(0, 3, 0)"), 0, 1, 9, 0);
        amounts(x.then("place(0, 6, 0)"), 0, 0, 9, 0);
    }

    private static void crowdsOfPairs() {
        Scene x = school(0, 1);
        for (int i = 0; i < 5; i++) {
            x.then("addLesson(0, " + i % 2 + ", 0, 1, 9)", "place(" + i + ", " + i + ", 0)");
            x.due("amount(3)", i * (i + 1) / 2);
        }
        x.then("addLesson(0, 0, 0, 1, 8)", "addLesson(1, 0, 0, 1, 9)", "place(6, 1, 1)", "place(5, 5, 0)");
        amounts(x, 0, 1, 0, 10);
        amounts(x.then("place(4, 6, 0)"), 1, 1, 0, 6);
        amounts(x.then("remove(5)", "place(3, 7, 0)"), 0, 0, 0, 4);
    }

    private static void unplacedCostNothing() {
        Scene x = school(3, 2).then("setWish(0, 0, 9)", "setWish(0, 5, 9)", "place(0, 0, 0)", "place(1, 4, 0)");
        amounts(x, 2, 1, 18, 0);
        amounts(x.then("remove(0)"), 0, 1, 9, 0);
        amounts(x.then("remove(1)"), 0, 0, 0, 0);
    }

    private static void weightsFromZeroToNine() {
        Scene x = school(2, 1).then("setWish(0, 3, 2)", "place(0, 3, 0)", "place(1, 5, 0)");
        amounts(x, 1, 1, 2, 0);
        x.then("setWeight(0, 0)", "setWeight(1, 0)", "setWeight(2, 0)", "setWeight(3, 0)").due("cost()", 0).due("costAnew()", 0);
        x.due("amount(0)", 1).due("amount(1)", 1).due("amount(2)", 2).then("setWeight(2, 9)").due("cost()", 18);
        x.then("setWeight(0, 9)", "setWeight(1, 9)").due("cost()", 36).due("costAnew()", 36);
    }

    /** Sixteen lessons of three hours, two on each day of each of two teachers, with all wishes and weights 9. */
    private static void costliestTable() {
        Scene x = school(0, 1);
        for (int slot = 0; slot < 30; slot++) {
            x.then("setWish(0, " + slot + ", 9)", "setWish(1, " + slot + ", 9)");
        }
        for (int i = 0; i < 16; i++) {
            String people = i / 8 + ", " + i / 8;
            x.then("addLesson(" + people + ", 0, 3, 9)", "place(" + i + ", " + (i % 8 / 2 * 6 + i % 2 * 3) + ", " + i / 8 + ")");
        }
        amounts(x, 0, 8, 16 * 27, 8).then("setWeight(0, 9)", "setWeight(1, 9)", "setWeight(2, 9)", "setWeight(3, 9)");
        x.due("cost()", 9 * 448).due("costAnew()", 9 * 448).due("isSound()", true);
        x.then("passDay()", "passDay()", "passDay()", "passDay()", "nextWeek()").due("amount(1)", 8 * 5).due("cost()", 9 * 480);
        x.then("passDay()", "passDay()", "passDay()", "passDay()", "nextWeek()").due("amount(1)", 8 * 9).due("cost()", 9 * 512);
        x.then("passDay()", "passDay()", "passDay()", "passDay()", "nextWeek()").due("amount(1)", 8 * 10).due("cost()", 9 * 520);
        x.then("passDay()", "passDay()", "passDay()", "passDay()", "nextWeek()").due("cost()", 9 * 520).due("costAnew()", 9 * 520);
    }

    // ---------------------------------------------------------------- promise 28

    private static void breaksOfNone() {
        new Scene().due("breaks()", 0);
        school(3, 1).due("breaks()", 0).then("close(0)", "close(1)", "ill(0, 0)").due("breaks()", 0);
        Scene x = school(3, 2).then("fill()").due("breaks()", 0).then("lock(0)", "ill(0, 4)", "close(1)").due("breaks()", 0);
        x.then("improve(20)").due("breaks()", 0);
    }

    /** Of two past lessons, one stands in a closed room; both are ahead of today. */
    private static void breaksNotOfPastLessons() {
        Scene x = school(3, 1).then("place(0, 0, 0)", "place(1, 1, 1)", "place(2, 6, 0)", "passDay()").due("breaks()", 0);
        x.due("reason(0, 0, 0)", 'p').then("close(1)").due("breaks()", 0).due("isSound()", true).due("placeOf(1)", 9);
        x.then("passDay()", "passDay()", "passDay()").due("breaks()", 0).then("nextWeek()").due("breaks()", 0);
        x.due("placeOf(1)", 8);
    }

    // ---------------------------------------------------------------- promises 29 and 30

    private static Scene lacks(Scene x, int kind, int hours) {
        return x.due("lacking(" + kind + ")", hours).due("lackingBySeats(" + kind + ")", hours);
    }

    private static Scene hours(Scene x, int group, int kind, int hours) {
        for (int rest = hours; rest > 0; rest -= 3) {
            x.then("addLesson(" + group + ", 0, " + kind + ", " + Math.min(3, rest) + ", 0)");
        }
        return x;
    }

    /** The groups 0 to 3 have 1, 20, 21 and 99 pupils. */
    private static Scene groups() {
        return new Scene("addTeacher(31)", "addGroup(1)", "addGroup(20)", "addGroup(21)", "addGroup(99)");
    }

    private static void lackingRanges() {
        Scene x = new Scene();
        x.refusesArgument("lacking(-1)", "lacking(4)", "lacking(MIN)", "lacking(MAX)");
        x.refusesArgument("lackingBySeats(-1)", "lackingBySeats(4)", "lackingBySeats(MIN)", "lackingBySeats(MAX)");
        lacks(lacks(x, 0, 0), 3, 0);
        lacks(lacks(new Scene("addRoom(0, 0, 99)", "addRoom(0, 3, 1)"), 0, 0), 3, 0);
    }

    private static void lackingWithoutRooms() {
        lacks(groups(), 0, 0);
        lacks(hours(groups(), 0, 0, 1), 0, 1);
        lacks(lacks(hours(groups(), 3, 3, 48), 3, 48), 0, 0).refusesState("addLesson(0, 0, 0, 1, 0)");
    }

    private static void lackingOfThirtyHours() {
        Scene x = lacks(hours(groups().then("addRoom(0, 1, 20)"), 1, 1, 29), 1, 0);
        lacks(hours(x, 1, 1, 1), 1, 0);
        lacks(hours(x, 1, 1, 1), 1, 1);
        lacks(hours(x, 1, 1, 12), 1, 13);
        lacks(x.then("addRoom(2, 1, 20)"), 1, 0);
        Scene most = lacks(hours(groups().then("addRoom(0, 0, 1)"), 0, 0, 48), 0, 18);
        lacks(most.then("addRoom(0, 0, 1)"), 0, 0);
    }

    private static void lackingOfSeats() {
        Scene x = hours(groups().then("addRoom(0, 0, 20)"), 1, 0, 3);
        lacks(x, 0, 0);
        lacks(hours(x, 2, 0, 2), 0, 2);
        lacks(hours(x, 3, 0, 3), 0, 5);
        lacks(x.then("addRoom(0, 0, 98)"), 0, 3);
        lacks(x.then("addRoom(0, 0, 99)"), 0, 0);
        Scene small = hours(groups().then("addRoom(0, 0, 1)", "addRoom(0, 0, 19)"), 0, 0, 3);
        lacks(lacks(small, 0, 0).then("addLesson(1, 0, 0, 3, 0)"), 0, 3);
        lacks(small.then("addRoom(0, 0, 20)"), 0, 0);
    }

    private static void lackingOfClosedRooms() {
        Scene x = hours(groups().then("addRoom(0, 0, 20)", "addRoom(0, 0, 99)"), 1, 0, 36);
        lacks(lacks(x, 0, 0).then("close(1)"), 0, 6);
        lacks(x.then("close(0)"), 0, 36);
        lacks(x.then("open(1)"), 0, 6);
        lacks(x.then("addLesson(3, 0, 0, 3, 0)"), 0, 9);
        lacks(x.then("open(0)", "close(1)"), 0, 9);
        lacks(x.then("open(1)"), 0, 0);
    }

    private static void lackingOfKinds() {
        Scene x = groups();
        for (int kind = 0; kind < 4; kind++) {
            hours(x, 0, kind, kind + 1);
        }
        for (int kind = 0; kind < 4; kind++) {
            lacks(x, kind, kind + 1);
        }
        x.then("addRoom(0, 2, 99)");
        lacks(lacks(lacks(lacks(x, 0, 1), 1, 2), 2, 0), 3, 4);
    }

    private static void lackingPlacedOrNot() {
        Scene x = hours(new Scene("addTeacher(0)", "addGroup(20)", "addRoom(0, 0, 20)"), 0, 0, 33);
        lacks(x.due("fill()", 1), 0, 3);
        lacks(x.then("passDay()", "close(0)"), 0, 33).due("placedShare()", 2.0f / 11.0f);
        lacks(x.then("open(0)", "fill()"), 0, 3);
    }

    /** The room for the large groups is taken by them; the small ones have what is left of both. */
    private static void lackingOfSmallBeforeLarge() {
        for (int first = 0; first < 2; first++) {
            Scene x = groups().then("addRoom(0, 0, " + (first == 0 ? 99 : 1) + ")", "addRoom(0, 0, " + (first == 0 ? 1 : 99) + ")");
            hours(hours(x, first == 0 ? 0 : 3, 0, 24), first == 0 ? 3 : 0, 0, 21);
            lacks(lacks(x, 0, 0).then("close(" + first + ")"), 0, first == 0 ? 21 : 24);
            lacks(x.then("open(" + first + ")", "close(" + (1 - first) + ")"), 0, 15);
        }
        Scene y = groups().then("addRoom(0, 0, 99)", "addRoom(0, 0, 1)");
        lacks(hours(hours(y, 3, 0, 33), 0, 0, 3), 0, 3);
    }

    // ---------------------------------------------------------------- promises 43 to 45

    private static void placedShareFromNoneToAll() {
        new Scene().refusesArithmetic("placedShare()");
        school(0, 1).refusesArithmetic("placedShare()");
        school(1, 1).due("placedShare()", 0.0f).then("place(0, 0, 0)").due("placedShare()", 1.0f);
        Scene x = school(16, 1);
        for (int i = 0; i < 16; i++) {
            x.due("placedShare()", i / 16.0f).then("place(" + i + ", " + i + ", 0)");
        }
        x.due("placedShare()", 1.0f).then("lock(0)", "passDay()").due("placedShare()", 1.0f);
        Scene thirds = school(3, 1).then("place(0, 0, 0)").due("placedShare()", 1.0f / 3.0f);
        thirds.then("place(2, 1, 0)").due("placedShare()", 2.0f / 3.0f).then("remove(0)").due("placedShare()", 1.0f / 3.0f);
    }

    private static void meanPossibleFromNoneToAll() {
        new Scene().refusesArithmetic("meanPossible()");
        school(0, 1).refusesArithmetic("meanPossible()");
        new Scene("addTeacher(0)", "addGroup(1)", "addLesson(0, 0, 0, 1, 0)").due("meanPossible()", 0.0);
        Scene x = school(16, 1).due("meanPossible()", 60.0);
        for (int i = 2; i < 8; i++) {
            x.then("addRoom(0, 0, 20)");
        }
        x.due("meanPossible()", 240.0).then("place(0, 0, 0)").due("meanPossible()", (240.0 + 15 * 232.0) / 16.0);
        Scene thirds = school(1, 1).then("addLesson(0, 0, 0, 2, 0)", "addLesson(0, 0, 1, 3, 0)").due("meanPossible()", 110.0 / 3.0);
        thirds.then("close(0)").due("meanPossible()", 55.0 / 3.0).then("close(1)").due("meanPossible()", 0.0);
    }

    private static void soundThroughout() {
        Scene x = new Scene().due("isSound()", true).then("addRoom(0, 0, 20)").due("isSound()", true);
        x.then("addTeacher(2)", "addGroup(20)", "addLesson(0, 0, 0, 3, 0)").due("isSound()", true);
        x.then("addLesson(0, 0, 1, 3, 0)", "addLesson(0, 0, 0, 2, 0)", "fill()", "setWish(0, 0, 9)").due("isSound()", true);
        x.then("lock(0)", "setWeight(2, 9)", "improve(20)", "save()", "passDay()").due("isSound()", true);
        x.then("unlock(0)", "close(0)").due("isSound()", true).then("open(0)", "restore(0)").due("isSound()", true);
        x.then("passDay()", "passDay()", "passDay()", "nextWeek()", "merge(0, 0)").due("isSound()", true);
    }
}
