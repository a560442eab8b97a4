import java.util.NoSuchElementException;

/** Promises 31 to 37: illness, closed rooms, days, weeks and accounts. */
public final class RepairTest {
    private static final Class<IllegalArgumentException> ARGUMENT = IllegalArgumentException.class;
    private static final Class<IllegalStateException> STATE = IllegalStateException.class;
    private static final Class<IndexOutOfBoundsException> INDEX = IndexOutOfBoundsException.class;
    private static final Class<NoSuchElementException> ELEMENT = NoSuchElementException.class;
    private static final Class<UnsupportedOperationException> LOCKED = UnsupportedOperationException.class;

    public static void main(String[] args) {
        ill();
        illInOrderOfExceptions();
        illHardestFirst();
        close();
        closeWithPastLessons();
        closeWithAllLessons();
        open();
        passDay();
        nextWeek();
        nextWeekRepairs();
        accounts();
        Check.end();
    }

    private static Termgrid school(int lessons) {
        Termgrid x = new Termgrid();
        x.addRoom(0, 0, 20);
        x.addTeacher(0);
        x.addTeacher(0);
        x.addGroup(20);
        for (int i = 0; i < lessons; i++) {
            x.addLesson(0, i % 2, 0, 2, i);
        }
        return x;
    }

    private static void week(Termgrid x) {
        for (int day = 1; day < 5; day++) {
            x.passDay();
        }
    }

    private static void ill() {
        Termgrid x = school(4);
        x.place(0, 6, 0);
        x.place(1, 8, 0);
        x.place(2, 10, 0);
        x.place(3, 0, 0);
        Check.due("ill(0, 1)", x.ill(0, 1), 0);
        Check.due("placeOf(0)", x.placeOf(0), 16);
        Check.due("placeOf(2): no gap", x.placeOf(2), 96);
        Check.due("placeOf(1), of another teacher", x.placeOf(1), 64);
        Check.due("placeOf(3)", x.placeOf(3), 0);
        Check.due("reason(0, 6, 0): a day off from now on", x.reason(0, 6, 0), 'o');
        Check.due("reason(1, 6, 0)", x.reason(1, 6, 0), '-');
        Check.refused("ill(0, 1), again", STATE, () -> x.ill(0, 1));
        for (int day = 0; day < 4; day += day == 0 ? 2 : 1) {
            x.ill(0, day);
        }
        Check.due("ill(0, 4)", x.ill(0, 4), 2);
        Check.refused("placeOf(0)", ELEMENT, () -> x.placeOf(0));
        Check.due("possible(0)", x.possible(0), 0);
    }

    private static void illInOrderOfExceptions() {
        Termgrid x = school(2);
        Check.refused("ill(2, 9)", INDEX, () -> x.ill(2, 9));
        Check.refused("ill(-1, 0)", INDEX, () -> x.ill(-1, 0));
        Check.refused("ill(0, 5)", ARGUMENT, () -> x.ill(0, 5));
        Check.refused("ill(0, -1)", ARGUMENT, () -> x.ill(0, -1));
        x.place(0, 0, 0);
        x.place(1, 6, 0);
        x.lock(1);
        Check.refused("ill(1, 1), locked", LOCKED, () -> x.ill(1, 1));
        Check.due("reason(1, 8, 0): nothing changed", x.reason(1, 8, 0), '-');
        Check.due("ill(1, 0)", x.ill(1, 0), 0);
        Check.due("ill(0, 1), of another teacher", x.ill(0, 1), 0);
        x.passDay();
        Check.refused("ill(0, 0), past", ARGUMENT, () -> x.ill(0, 0));
        Check.refused("ill(1, 0), past and a day off", ARGUMENT, () -> x.ill(1, 0));
        Check.refused("ill(1, 1), today, locked", LOCKED, () -> x.ill(1, 1));
        x.unlock(1);
        Check.due("ill(1, 1), today", x.ill(1, 1), 0);
        Check.due("placeOf(1)", x.placeOf(1), 96);
    }

    /** The hardest one of the lessons is tried first, and those that were tried are not tried again. */
    private static void illHardestFirst() {
        Termgrid x = new Termgrid();
        x.addRoom(0, 0, 20);
        x.addTeacher(28);
        x.addGroup(20);
        x.addLesson(0, 0, 0, 1, 0);
        x.addLesson(0, 0, 0, 3, 1);
        x.addLesson(0, 0, 0, 3, 2);
        x.addLesson(0, 0, 0, 1, 3);
        x.place(0, 0, 0);
        x.place(1, 1, 0);
        x.place(2, 6, 0);
        x.place(3, 4, 0);
        Check.due("ill(0, 0)", x.ill(0, 0), 2);
        Check.due("placeOf(1), the hardest one", x.placeOf(1), 72);
        Check.due("placeOf(2), not repaired", x.placeOf(2), 48);
        Check.refused("placeOf(0)", ELEMENT, () -> x.placeOf(0));
        Check.refused("placeOf(3)", ELEMENT, () -> x.placeOf(3));
    }

    private static void close() {
        Termgrid x = school(3);
        x.addRoom(0, 0, 20);
        Check.refused("close(2)", INDEX, () -> x.close(2));
        Check.refused("close(-1)", INDEX, () -> x.close(-1));
        x.place(0, 0, 0);
        x.place(1, 2, 1);
        x.place(2, 6, 0);
        x.lock(2);
        Check.refused("close(0), locked", LOCKED, () -> x.close(0));
        Check.due("placeOf(0)", x.placeOf(0), 0);
        x.unlock(2);
        Check.due("close(0)", x.close(0), 0);
        Check.due("placeOf(0)", x.placeOf(0), 1);
        Check.due("placeOf(1)", x.placeOf(1), 17);
        Check.due("placeOf(2): no gap", x.placeOf(2), 49);
        Check.refused("close(0), again", STATE, () -> x.close(0));
        Check.due("close(1)", x.close(1), 3);
        Check.due("possible(0)", x.possible(0), 0);
        Check.due("cost()", x.cost(), 0);
    }

    private static void closeWithPastLessons() {
        Termgrid x = school(3);
        x.place(0, 0, 0);
        x.place(1, 6, 0);
        x.place(2, 2, 0);
        x.lock(2);
        x.passDay();
        Check.refused("close(0), with a past and locked lesson", LOCKED, () -> x.close(0));
        x.unlock(2);
        Check.due("close(0)", x.close(0), 1);
        Check.due("placeOf(0), past", x.placeOf(0), 0);
        Check.due("placeOf(2), past", x.placeOf(2), 16);
        Check.refused("placeOf(1)", ELEMENT, () -> x.placeOf(1));
    }

    private static void closeWithAllLessons() {
        Termgrid x = school(0);
        x.addRoom(0, 0, 20);
        for (int i = 0; i < 16; i++) {
            x.addLesson(0, 0, 0, 1, i % 10);
            x.place(i, i, 0);
        }
        Check.due("close(0)", x.close(0), 0);
        for (int i = 0; i < 16; i++) {
            Check.due("placeOf(" + i + ") is in the room 1", x.placeOf(i) % 8, 1);
        }
    }

    private static void open() {
        Termgrid x = school(1);
        x.addRoom(0, 0, 20);
        x.addRoom(0, 0, 20);
        Check.refused("open(3)", INDEX, () -> x.open(3));
        Check.refused("open(-1)", INDEX, () -> x.open(-1));
        Check.refused("open(0), open", STATE, () -> x.open(0));
        x.close(0);
        x.close(2);
        Check.due("open(0)", x.open(0), 2);
        Check.refused("open(0), again", STATE, () -> x.open(0));
        Check.due("reason(0, 0, 0)", x.reason(0, 0, 0), '-');
        Check.due("reason(0, 0, 2)", x.reason(0, 0, 2), 'c');
        Check.due("open(2)", x.open(2), 3);
    }

    private static void passDay() {
        Termgrid x = school(1);
        Check.due("today()", x.today(), 0);
        for (int day = 1; day < 5; day++) {
            Check.refused("nextWeek()", STATE, x::nextWeek);
            Check.due("passDay()", x.passDay(), day);
            Check.due("today()", x.today(), day);
        }
        Check.refused("passDay() on the day 4", STATE, x::passDay);
        Check.due("today()", x.today(), 4);
        Check.due("nextWeek()", x.nextWeek(), 1);
        Check.due("today()", x.today(), 0);
    }

    private static void nextWeek() {
        Termgrid x = school(3);
        x.place(0, 4, 0);
        x.place(1, 9, 0);
        x.place(2, 28, 0);
        x.lock(2);
        week(x);
        Check.due("nextWeek()", x.nextWeek(), 1);
        Check.due("placeOf(0), the table stays", x.placeOf(0), 32);
        Check.due("placeOf(1)", x.placeOf(1), 72);
        Check.due("isLocked(2)", x.isLocked(2), true);
        Check.due("account(0)", x.account(0), 2);
        Check.due("account(1)", x.account(1), 0);
        Check.due("amount(1)", x.amount(1), 6);
        Check.due("remove(0), no longer past", x.remove(0), 3);
        week(x);
        Check.due("nextWeek()", x.nextWeek(), 2);
        Check.due("account(0)", x.account(0), 3);
    }

    private static void nextWeekRepairs() {
        Termgrid x = school(3);
        x.place(0, 4, 0);
        x.place(1, 1, 0);
        x.place(2, 18, 0);
        x.addRoom(0, 0, 20);
        x.passDay();
        Check.due("close(0)", x.close(0), 0);
        Check.due("placeOf(2)", x.placeOf(2), 49);
        Check.due("placeOf(0)", x.placeOf(0), 32);
        x.passDay();
        x.passDay();
        x.passDay();
        Check.due("nextWeek()", x.nextWeek(), 1);
        Check.due("account(0), before the repair", x.account(0), 1);
        Check.due("placeOf(0), repaired", x.placeOf(0), 1);
        Check.due("placeOf(1), repaired", x.placeOf(1), 17);
        Check.due("placeOf(2)", x.placeOf(2), 49);
        Check.due("cost()", x.cost(), 0);
    }

    private static void accounts() {
        Termgrid x = school(4);
        Check.refused("account(2)", INDEX, () -> x.account(2));
        Check.refused("account(-1)", INDEX, () -> x.account(-1));
        x.place(0, 4, 0);
        x.place(2, 10, 0);
        x.place(1, 16, 0);
        for (int weeks = 1; weeks <= 5; weeks++) {
            week(x);
            Check.due("nextWeek()", x.nextWeek(), weeks);
            Check.due("account(0), at most 9", x.account(0), Math.min(9, 2 * weeks));
            Check.due("account(1)", x.account(1), weeks);
            Check.due("cost()", x.cost(), x.costAnew());
        }
        Check.due("amount(1)", x.amount(1), 10 + 10 + 6);
    }
}
