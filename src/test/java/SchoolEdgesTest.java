/** The boundary cases of the promises 1 to 7: a new object, rooms, teachers, groups, lessons, wishes, weights. */
public final class SchoolEdgesTest {
    public static void main(String[] args) {
        newObjectHasNothing();
        newObjectAnswers();
        newObjectBeginsAtZero();
        roomRanges();
        roomNumbers();
        roomIsOpenAtFirst();
        roomHasItsHouseKindAndSeats();
        teacherRange();
        teacherDaysOff();
        teacherNumbers();
        teacherBeginsWithoutWishesAndAccount();
        groupRange();
        groupNumbers();
        lessonRanges();
        lessonOrderOfExceptions();
        lessonNumbers();
        lessonIsNotPlaced();
        wishRanges();
        wishOfEachSlot();
        wishCounts();
        weightRanges();
        weightCounts();
        Check.end();
    }

    // ---------------------------------------------------------------- promise 1

    private static void newObjectHasNothing() {
        Scene x = new Scene();
        x.refusesIndex("close(0)", "open(0)");
        x.refusesIndex("setWish(0, 0, 0)", "teacherAt(0, 0)", "ill(0, 0)", "account(0)");
        x.refusesIndex("groupAt(0, 0)", "addLesson(0, 0, 0, 1, 0)");
        x.refusesIndex("reason(0, 0, 0)", "reasons(0, 0)", "place(0, 0, 0)", "remove(0)", "lock(0)", "unlock(0)");
        x.refusesIndex("isLocked(0)", "placeOf(0)", "possible(0)", "possibleAt(0, 0)", "cheapest(0)");
        x.refusesIndex("costWith(0, 0, 0)");
        x.refusesElement("hardest()");
        x.refusesArithmetic("placedShare()", "meanPossible()");
        x.refusesElement("placeIn(0, 0)", "differences(0, 0)", "restore(0)", "merge(0, 0)");
    }

    private static void newObjectAnswers() {
        Scene x = new Scene();
        x.due("today()", 0).due("cost()", 0).due("costAnew()", 0).due("breaks()", 0).due("isSound()", true);
        for (int i = 0; i < 4; i++) {
            x.due("amount(" + i + ")", 0).due("lacking(" + i + ")", 0).due("lackingBySeats(" + i + ")", 0);
        }
        x.due("fill()", 0).due("improve(1)", 0).due("improve(20)", 0).due("isSound()", true);
    }

    private static void newObjectBeginsAtZero() {
        new Scene().due("addRoom(0, 0, 1)", 0);
        new Scene().due("addTeacher(0)", 0);
        new Scene().due("addGroup(1)", 0);
        new Scene("addTeacher(0)", "addGroup(1)").due("addLesson(0, 0, 0, 1, 0)", 0);
        new Scene().due("save()", 0).due("restore(0)", 0).due("merge(0, 0)", 0).due("differences(0, 0)", 0);
        new Scene().refusesState("nextWeek()").due("passDay()", 1);
    }

    // ---------------------------------------------------------------- promise 2

    private static void roomRanges() {
        Scene x = new Scene();
        x.refusesArgument("addRoom(-1, 0, 1)", "addRoom(3, 0, 1)", "addRoom(MIN, 0, 1)", "addRoom(MAX, 0, 1)");
        x.refusesArgument("addRoom(0, -1, 1)", "addRoom(0, 4, 1)", "addRoom(0, MIN, 1)", "addRoom(0, MAX, 1)");
        x.refusesArgument("addRoom(0, 0, 0)", "addRoom(0, 0, 100)", "addRoom(0, 0, MIN)", "addRoom(0, 0, MAX)");
        x.refusesArgument("addRoom(0, 0, -1)", "addRoom(-1, -1, 0)", "addRoom(3, 4, 100)");
        x.due("addRoom(0, 0, 1)", 0).due("addRoom(2, 3, 99)", 1);
        x.due("addRoom(2, 0, 1)", 2).due("addRoom(0, 3, 1)", 3).due("addRoom(0, 0, 99)", 4);
    }

    private static void roomNumbers() {
        Scene x = new Scene();
        for (int i = 0; i < 8; i++) {
            x.due("addRoom(1, 1, 20)", i);
        }
        x.refusesState("addRoom(1, 1, 20)", "addRoom(0, 0, 1)", "addRoom(2, 3, 99)");
        x.refusesArgument("addRoom(3, 1, 20)", "addRoom(1, 4, 20)", "addRoom(1, 1, 0)", "addRoom(1, 1, 100)");
        x.due("close(7)", 0).refusesIndex("close(8)").refusesState("addRoom(1, 1, 20)");
    }

    private static void roomIsOpenAtFirst() {
        Scene x = new Scene("addRoom(0, 0, 1)");
        x.refusesState("open(0)").due("close(0)", 0).due("addRoom(0, 0, 1)", 1).refusesState("open(1)");
        x.due("open(0)", 2);
    }

    private static void roomHasItsHouseKindAndSeats() {
        Scene kinds = new Scene("addTeacher(0)", "addGroup(1)");
        for (int kind = 0; kind < 4; kind++) {
            kinds.then("addRoom(0, " + kind + ", 1)", "addLesson(0, 0, " + kind + ", 1, 0)");
        }
        for (int lesson = 0; lesson < 4; lesson++) {
            for (int room = 0; room < 4; room++) {
                kinds.due("reason(" + lesson + ", 0, " + room + ")", lesson == room ? '-' : 'k');
            }
        }
        Scene houses = new Scene("addTeacher(0)", "addGroup(1)", "addLesson(0, 0, 0, 1, 0)", "addLesson(0, 0, 0, 1, 0)");
        houses.then("addRoom(0, 0, 1)", "addRoom(1, 0, 1)", "addRoom(2, 0, 1)");
        for (int taken = 0; taken < 3; taken++) {
            houses.then("place(0, 0, " + taken + ")");
            for (int room = 0; room < 3; room++) {
                houses.due("reason(1, 1, " + room + ")", room == taken ? '-' : 'v');
            }
        }
        Scene seats = new Scene("addTeacher(0)", "addRoom(0, 0, 1)", "addRoom(0, 0, 98)", "addRoom(0, 0, 99)");
        seats.then("addGroup(1)", "addGroup(2)", "addGroup(98)", "addGroup(99)");
        String want = "---s--s--ss-";
        for (int i = 0; i < 4; i++) {
            seats.then("addLesson(" + i + ", 0, 0, 1, 0)");
            for (int room = 0; room < 3; room++) {
                seats.due("reason(" + i + ", 0, " + room + ")", want.charAt(3 * i + room));
            }
        }
    }

    // ---------------------------------------------------------------- promise 3

    private static void teacherRange() {
        Scene x = new Scene();
        x.refusesArgument("addTeacher(-1)", "addTeacher(32)", "addTeacher(MIN)", "addTeacher(MAX)");
        x.due("addTeacher(0)", 0).due("addTeacher(31)", 1);
    }

    private static void teacherDaysOff() {
        Scene x = new Scene("addRoom(0, 0, 1)", "addGroup(1)");
        int[] sums = {0, 31, 1, 2, 4, 8, 16};
        for (int i = 0; i < sums.length; i++) {
            x.then("addTeacher(" + sums[i] + ")", "addLesson(0, " + i + ", 0, 1, 0)");
        }
        for (int i = 0; i < sums.length; i++) {
            for (int day = 0; day < 5; day++) {
                boolean off = i == 1 || i > 1 && day == i - 2;
                x.due("reason(" + i + ", " + 6 * day + ", 0)", off ? 'o' : '-');
                x.due("reason(" + i + ", " + (6 * day + 5) + ", 0)", off ? 'o' : '-');
            }
        }
        x.refusesState("ill(1, 0)", "ill(1, 4)", "ill(2, 0)", "ill(6, 4)").due("ill(0, 0)", 0).due("ill(2, 4)", 0);
    }

    private static void teacherNumbers() {
        Scene x = new Scene();
        for (int i = 0; i < 8; i++) {
            x.due("addTeacher(0)", i);
        }
        x.refusesState("addTeacher(0)", "addTeacher(31)").refusesArgument("addTeacher(-1)", "addTeacher(32)");
        x.due("account(7)", 0).refusesIndex("account(8)");
    }

    private static void teacherBeginsWithoutWishesAndAccount() {
        Scene x = new Scene("addTeacher(0)", "addTeacher(31)");
        x.due("account(0)", 0).due("account(1)", 0);
        for (int slot = 0; slot < 30; slot++) {
            x.due("setWish(0, " + slot + ", 9)", 0).due("setWish(1, " + slot + ", 1)", 0);
        }
        x.then("addTeacher(0)").due("setWish(2, 0, 0)", 0).due("setWish(2, 29, 0)", 0);
    }

    // ---------------------------------------------------------------- promise 4

    private static void groupRange() {
        Scene x = new Scene();
        x.refusesArgument("addGroup(0)", "addGroup(100)", "addGroup(-1)", "addGroup(MIN)", "addGroup(MAX)");
        x.due("addGroup(1)", 0).due("addGroup(99)", 1);
    }

    private static void groupNumbers() {
        Scene x = new Scene();
        for (int i = 0; i < 8; i++) {
            x.due("addGroup(20)", i);
        }
        x.refusesState("addGroup(20)", "addGroup(1)", "addGroup(99)").refusesArgument("addGroup(0)", "addGroup(100)");
        x.refusesElement("groupAt(7, 0)").refusesIndex("groupAt(8, 0)");
    }

    // ---------------------------------------------------------------- promise 5

    private static Scene withPeople(int groups, int teachers) {
        Scene x = new Scene();
        for (int i = 0; i < groups; i++) {
            x.then("addGroup(20)");
        }
        for (int i = 0; i < teachers; i++) {
            x.then("addTeacher(0)");
        }
        return x;
    }

    private static void lessonRanges() {
        Scene x = withPeople(8, 7);
        x.refusesIndex("addLesson(-1, 0, 0, 1, 0)", "addLesson(8, 0, 0, 1, 0)");
        x.refusesIndex("addLesson(MIN, 0, 0, 1, 0)", "addLesson(MAX, 0, 0, 1, 0)");
        x.refusesIndex("addLesson(0, -1, 0, 1, 0)", "addLesson(0, 7, 0, 1, 0)");
        x.refusesIndex("addLesson(0, MIN, 0, 1, 0)", "addLesson(0, MAX, 0, 1, 0)");
        x.refusesArgument("addLesson(0, 0, -1, 1, 0)", "addLesson(0, 0, 4, 1, 0)");
        x.refusesArgument("addLesson(0, 0, MIN, 1, 0)", "addLesson(0, 0, MAX, 1, 0)");
        x.refusesArgument("addLesson(0, 0, 0, 0, 0)", "addLesson(0, 0, 0, 4, 0)", "addLesson(0, 0, 0, -1, 0)");
        x.refusesArgument("addLesson(0, 0, 0, MIN, 0)", "addLesson(0, 0, 0, MAX, 0)");
        x.refusesArgument("addLesson(0, 0, 0, 1, -1)", "addLesson(0, 0, 0, 1, 10)");
        x.refusesArgument("addLesson(0, 0, 0, 1, MIN)", "addLesson(0, 0, 0, 1, MAX)");
        x.due("addLesson(0, 0, 0, 1, 0)", 0).due("addLesson(7, 6, 3, 3, 9)", 1);
        x.due("addLesson(7, 0, 0, 1, 0)", 2).due("addLesson(0, 6, 0, 1, 0)", 3).due("addLesson(0, 0, 3, 1, 0)", 4);
        x.due("addLesson(0, 0, 0, 3, 0)", 5).due("addLesson(0, 0, 0, 1, 9)", 6).due("addLesson(0, 0, 0, 2, 5)", 7);
    }

    private static void lessonOrderOfExceptions() {
        withPeople(0, 0).refusesIndex("addLesson(0, 0, 0, 1, 0)", "addLesson(0, 0, 4, 4, 10)");
        withPeople(1, 0).refusesIndex("addLesson(0, 0, 0, 1, 0)", "addLesson(0, 0, -1, 0, -1)");
        withPeople(0, 1).refusesIndex("addLesson(0, 0, 0, 1, 0)", "addLesson(0, 0, 4, 4, 10)");
        withPeople(1, 1).refusesIndex("addLesson(1, 0, -1, 1, 0)", "addLesson(0, 1, 0, 4, 0)");
    }

    private static void lessonNumbers() {
        Scene x = withPeople(1, 1);
        for (int i = 0; i < 16; i++) {
            x.due("addLesson(0, 0, 0, 1, 0)", i);
        }
        x.refusesState("addLesson(0, 0, 0, 1, 0)", "addLesson(0, 0, 3, 3, 9)");
        x.refusesArgument("addLesson(0, 0, 4, 1, 0)", "addLesson(0, 0, 0, 0, 0)", "addLesson(0, 0, 0, 1, 10)");
        x.refusesIndex("addLesson(1, 0, 0, 1, 0)", "addLesson(0, -1, 0, 1, 0)", "addLesson(1, 1, 4, 4, 10)");
        x.due("isLocked(15)", false).refusesIndex("isLocked(16)");
    }

    private static void lessonIsNotPlaced() {
        Scene x = withPeople(1, 1).then("addRoom(0, 0, 20)");
        x.due("addLesson(0, 0, 0, 1, 0)", 0).refusesElement("placeOf(0)").refusesState("remove(0)", "lock(0)");
        x.due("isLocked(0)", false).due("hardest()", 0).due("cost()", 0).due("placedShare()", 0.0f);
        for (int slot = 0; slot < 30; slot += 29) {
            x.refusesElement("groupAt(0, " + slot + ")", "teacherAt(0, " + slot + ")");
        }
    }

    // ---------------------------------------------------------------- promise 6

    private static Scene oneLesson() {
        return new Scene("addRoom(0, 0, 20)", "addTeacher(0)", "addGroup(20)", "addLesson(0, 0, 0, 1, 0)");
    }

    private static void wishRanges() {
        new Scene().refusesIndex("setWish(0, 0, 0)", "setWish(0, 30, 10)", "setWish(-1, -1, -1)");
        Scene x = oneLesson();
        x.refusesIndex("setWish(-1, 0, 0)", "setWish(1, 0, 0)", "setWish(MIN, 0, 0)", "setWish(MAX, 0, 0)");
        x.refusesIndex("setWish(1, 30, 0)", "setWish(1, 0, 10)", "setWish(-1, -1, -1)");
        x.refusesArgument("setWish(0, -1, 0)", "setWish(0, 30, 0)", "setWish(0, MIN, 0)", "setWish(0, MAX, 0)");
        x.refusesArgument("setWish(0, 0, -1)", "setWish(0, 0, 10)", "setWish(0, 0, MIN)", "setWish(0, 0, MAX)");
        x.refusesArgument("setWish(0, 30, 10)", "setWish(0, -1, -1)");
        x.due("setWish(0, 0, 9)", 0).due("setWish(0, 0, 0)", 9).due("setWish(0, 0, 0)", 0);
        x.due("setWish(0, 29, 9)", 0).due("setWish(0, 29, 1)", 9).due("setWish(0, 29, 0)", 1);
        Scene full = withPeople(0, 8);
        full.due("setWish(7, 29, 9)", 0).refusesIndex("setWish(8, 29, 9)").due("setWish(7, 29, 0)", 9);
    }

    private static void wishOfEachSlot() {
        Scene x = new Scene("addTeacher(0)", "addTeacher(0)");
        for (int slot = 0; slot < 30; slot++) {
            x.due("setWish(0, " + slot + ", " + (1 + slot % 9) + ")", 0);
        }
        for (int slot = 0; slot < 30; slot++) {
            x.due("setWish(0, " + slot + ", 0)", 1 + slot % 9).due("setWish(1, " + slot + ", 0)", 0);
        }
    }

    private static void wishCounts() {
        Scene x = oneLesson();
        x.then("setWish(0, 0, 9)").due("place(0, 0, 0)", 9).due("place(0, 1, 0)", 0);
        x.due("place(0, 29, 0)", 1).due("setWish(0, 29, 9)", 0).due("cost()", 10).due("costAnew()", 10);
        x.refusesArgument("setWish(0, 29, 10)").due("cost()", 10);
        x.due("setWish(0, 29, 0)", 9).due("cost()", 1).due("costAnew()", 1);
    }

    // ---------------------------------------------------------------- promise 7

    private static void weightRanges() {
        Scene x = new Scene();
        x.refusesArgument("setWeight(-1, 0)", "setWeight(4, 0)", "setWeight(MIN, 0)", "setWeight(MAX, 0)");
        x.refusesArgument("setWeight(0, -1)", "setWeight(0, 10)", "setWeight(0, MIN)", "setWeight(0, MAX)");
        x.refusesArgument("setWeight(3, -1)", "setWeight(3, 10)", "setWeight(4, 10)", "setWeight(-1, -1)");
        for (int piece = 0; piece < 4; piece++) {
            x.due("setWeight(" + piece + ", 9)", 1).due("setWeight(" + piece + ", 0)", 9);
            x.due("setWeight(" + piece + ", " + piece + ")", 0);
        }
        for (int piece = 0; piece < 4; piece++) {
            x.due("setWeight(" + piece + ", 1)", piece);
        }
    }

    /** Lessons in the slots 3 and 5 with wishes: a gap, a late hour, a wish of 4 and a crowd. */
    private static void weightCounts() {
        Scene x = oneLesson().then("addLesson(0, 0, 0, 1, 0)", "setWish(0, 3, 4)", "place(0, 3, 0)", "place(1, 5, 0)");
        int[] amounts = {1, 1, 4, 1};
        int cost = 7;
        for (int piece = 0; piece < 4; piece++) {
            x.due("amount(" + piece + ")", amounts[piece]);
            x.due("setWeight(" + piece + ", 0)", 1).due("cost()", cost - amounts[piece]);
            x.due("setWeight(" + piece + ", 9)", 0).due("cost()", cost + 8 * amounts[piece]);
            x.due("costAnew()", cost + 8 * amounts[piece]).due("amount(" + piece + ")", amounts[piece]);
            x.due("setWeight(" + piece + ", 1)", 9).due("cost()", cost);
        }
    }
}
