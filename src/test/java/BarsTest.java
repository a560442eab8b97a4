import java.util.NoSuchElementException;

/** Promises 8 and 9: why a place is barred, and the least reasons for a slot. */
public final class BarsTest {
    private static final Class<IllegalArgumentException> ARGUMENT = IllegalArgumentException.class;
    private static final Class<IndexOutOfBoundsException> INDEX = IndexOutOfBoundsException.class;

    public static void main(String[] args) {
        lettersByThemselves();
        lettersByOthers();
        touchingHouses();
        hoursOfTheDayAlone();
        ownPlaceDoesNotMatter();
        wrongPlaces();
        leastReasons();
        reasonsByNumber();
        Check.end();
    }

    private static Termgrid school() {
        Termgrid x = new Termgrid();
        x.addRoom(0, 0, 20);
        x.addRoom(1, 0, 20);
        x.addRoom(0, 1, 20);
        x.addRoom(0, 0, 10);
        x.addTeacher(4);
        x.addTeacher(0);
        x.addGroup(20);
        x.addGroup(10);
        return x;
    }

    private static void lettersByThemselves() {
        Termgrid x = school();
        x.addLesson(0, 0, 0, 2, 0);
        x.addLesson(0, 1, 0, 1, 0);
        x.addLesson(0, 1, 0, 3, 0);
        Check.due("reason(0, 0, 0)", x.reason(0, 0, 0), '-');
        Check.due("reason(0, 4, 0)", x.reason(0, 4, 0), '-');
        Check.due("reason(0, 5, 0)", x.reason(0, 5, 0), 'h');
        Check.due("reason(0, 29, 0)", x.reason(0, 29, 0), 'h');
        Check.due("reason(1, 29, 0)", x.reason(1, 29, 0), '-');
        Check.due("reason(2, 3, 0)", x.reason(2, 3, 0), '-');
        Check.due("reason(2, 4, 0)", x.reason(2, 4, 0), 'h');
        Check.due("reason(0, 11, 0)", x.reason(0, 11, 0), 'h');
        Check.due("reason(0, 12, 0)", x.reason(0, 12, 0), 'o');
        Check.due("reason(0, 17, 0)", x.reason(0, 17, 0), 'h');
        Check.due("reason(1, 12, 0)", x.reason(1, 12, 0), '-');
        Check.due("reason(1, 0, 2)", x.reason(1, 0, 2), 'k');
        Check.due("reason(1, 0, 3)", x.reason(1, 0, 3), 's');
        x.close(3);
        Check.due("reason(1, 0, 3)", x.reason(1, 0, 3), 's');
        x.close(0);
        Check.due("reason(1, 0, 0)", x.reason(1, 0, 0), 'c');
        x.close(2);
        Check.due("reason(1, 0, 2)", x.reason(1, 0, 2), 'k');
        x.passDay();
        Check.due("reason(1, 5, 0)", x.reason(1, 5, 0), 'p');
        Check.due("reason(1, 6, 0)", x.reason(1, 6, 0), 'c');
        Check.due("reason(0, 5, 1)", x.reason(0, 5, 1), 'h');
        Check.due("reason(1, 6, 1)", x.reason(1, 6, 1), '-');
        x.passDay();
        x.passDay();
        Check.due("reason(0, 12, 1)", x.reason(0, 12, 1), 'p');
    }

    private static void lettersByOthers() {
        Termgrid x = school();
        x.addLesson(0, 0, 0, 2, 0);
        x.addLesson(1, 1, 0, 1, 0);
        x.addLesson(1, 0, 0, 1, 0);
        x.addLesson(0, 1, 0, 1, 0);
        x.place(0, 1, 0);
        Check.due("reason(1, 0, 0)", x.reason(1, 0, 0), '-');
        Check.due("reason(1, 1, 0)", x.reason(1, 1, 0), 'r');
        Check.due("reason(1, 2, 0)", x.reason(1, 2, 0), 'r');
        Check.due("reason(1, 3, 0)", x.reason(1, 3, 0), '-');
        Check.due("reason(1, 2, 1)", x.reason(1, 2, 1), '-');
        Check.due("reason(2, 2, 1)", x.reason(2, 2, 1), 't');
        Check.due("reason(2, 2, 0)", x.reason(2, 2, 0), 'r');
        Check.due("reason(3, 1, 1)", x.reason(3, 1, 1), 'g');
        Check.due("reason(2, 0, 1)", x.reason(2, 0, 1), 'v');
        Check.due("reason(2, 3, 1)", x.reason(2, 3, 1), 'v');
        Check.due("reason(3, 0, 1)", x.reason(3, 0, 1), 'v');
        Check.due("reason(3, 3, 1)", x.reason(3, 3, 1), 'v');
        Check.due("reason(3, 3, 0)", x.reason(3, 3, 0), '-');
        Check.due("reason(1, 3, 1)", x.reason(1, 3, 1), '-');
        Check.due("reason(2, 4, 1)", x.reason(2, 4, 1), '-');
        Check.due("reason(2, 0, 3), of the same house", x.reason(2, 0, 3), '-');
        x.remove(0);
        Check.due("reason(1, 1, 0)", x.reason(1, 1, 0), '-');
    }

    private static void touchingHouses() {
        Termgrid x = school();
        x.addLesson(1, 1, 0, 1, 0);
        x.addLesson(1, 1, 0, 3, 0);
        x.place(0, 5, 0);
        Check.due("reason(1, 6, 1), the next day", x.reason(1, 6, 1), '-');
        Check.due("reason(1, 2, 1)", x.reason(1, 2, 1), 'v');
        x.place(0, 6, 0);
        Check.due("reason(1, 3, 1), the day ahead", x.reason(1, 3, 1), '-');
        Check.due("reason(1, 7, 1)", x.reason(1, 7, 1), 'v');
        Check.due("reason(1, 7, 3)", x.reason(1, 7, 3), '-');
    }

    private static void hoursOfTheDayAlone() {
        Termgrid x = school();
        x.addLesson(1, 1, 0, 1, 0);
        x.addLesson(1, 1, 0, 3, 0);
        x.place(0, 6, 1);
        Check.due("reasons(1, 5): the next day does not count", x.reasons(1, 5), 1);
        Check.due("reason(1, 5, 0)", x.reason(1, 5, 0), 'h');
        x.place(0, 5, 0);
        Check.due("reason(1, 4, 0)", x.reason(1, 4, 0), 'h');
        Check.due("reason(0, 5, 0)", x.reason(0, 5, 0), '-');
    }

    private static void ownPlaceDoesNotMatter() {
        Termgrid x = school();
        x.addLesson(1, 1, 0, 3, 0);
        x.place(0, 1, 0);
        for (int slot = 0; slot < 4; slot++) {
            Check.due("reason(0, " + slot + ", 0)", x.reason(0, slot, 0), '-');
            Check.due("reason(0, " + slot + ", 1)", x.reason(0, slot, 1), '-');
        }
    }

    private static void wrongPlaces() {
        Termgrid x = school();
        Check.refused("reason(0, 30, 8)", INDEX, () -> x.reason(0, 30, 8));
        Check.refused("reasons(0, 30)", INDEX, () -> x.reasons(0, 30));
        x.addLesson(0, 0, 0, 1, 0);
        Check.refused("reason(-1, 0, 0)", INDEX, () -> x.reason(-1, 0, 0));
        Check.refused("reason(1, 0, 0)", INDEX, () -> x.reason(1, 0, 0));
        Check.refused("reason(0, -1, 0)", ARGUMENT, () -> x.reason(0, -1, 0));
        Check.refused("reason(0, 30, 0)", ARGUMENT, () -> x.reason(0, 30, 0));
        Check.refused("reason(0, 0, -1)", ARGUMENT, () -> x.reason(0, 0, -1));
        Check.refused("reason(0, 0, 4)", ARGUMENT, () -> x.reason(0, 0, 4));
        Check.refused("reason(0, 0, MAX)", ARGUMENT, () -> x.reason(0, 0, Integer.MAX_VALUE));
        Check.refused("reasons(-1, 0)", INDEX, () -> x.reasons(-1, 0));
        Check.refused("reasons(0, -1)", ARGUMENT, () -> x.reasons(0, -1));
        Check.refused("reasons(0, 30)", ARGUMENT, () -> x.reasons(0, 30));
        Check.refused("reasons(0, 0)", NoSuchElementException.class, () -> x.reasons(0, 0));
    }

    private static void leastReasons() {
        Termgrid x = new Termgrid();
        x.addTeacher(2);
        x.addGroup(20);
        x.addLesson(0, 0, 0, 2, 0);
        Check.due("reasons(0, 0) without rooms", x.reasons(0, 0), 0);
        Check.due("reasons(0, 5) without rooms", x.reasons(0, 5), 0);
        x.addRoom(0, 1, 30);
        Check.due("reasons(0, 0): k", x.reasons(0, 0), 8);
        x.addRoom(0, 0, 10);
        Check.due("reasons(0, 0): k, s", x.reasons(0, 0), 8 + 16);
        Check.due("reasons(0, 5): h alone", x.reasons(0, 5), 1);
        Check.due("reasons(0, 6): o alone", x.reasons(0, 6), 4);
        x.addRoom(0, 1, 10);
        Check.due("reasons(0, 0): k, s", x.reasons(0, 0), 8 + 16);
        x.addRoom(0, 0, 20);
        Check.refused("reasons(0, 0)", NoSuchElementException.class, () -> x.reasons(0, 0));
        x.close(3);
        Check.due("reasons(0, 0): k, s, c", x.reasons(0, 0), 8 + 16 + 32);
        x.passDay();
        Check.due("reasons(0, 0): p", x.reasons(0, 0), 2);
        Check.due("reasons(0, 11): h, not o", x.reasons(0, 11), 1);
    }

    private static void reasonsByNumber() {
        Termgrid x = new Termgrid();
        x.addRoom(0, 0, 20);
        x.addTeacher(0);
        x.addTeacher(0);
        x.addGroup(20);
        x.addGroup(20);
        x.addLesson(0, 0, 0, 1, 0);
        x.addLesson(0, 0, 0, 1, 0);
        x.addLesson(1, 0, 0, 1, 0);
        x.addLesson(0, 1, 0, 1, 0);
        x.addLesson(1, 1, 0, 1, 0);
        x.place(0, 0, 0);
        Check.due("reasons(1, 0): r of r, t, g", x.reasons(1, 0), 64);
        x.addRoom(1, 0, 20);
        Check.due("reasons(1, 0): t of t, g", x.reasons(1, 0), 128);
        Check.due("reasons(2, 0): t", x.reasons(2, 0), 128);
        Check.due("reasons(3, 0): g", x.reasons(3, 0), 256);
        x.close(0);
        Check.due("reasons(2, 0): t of the other, place freed", x.placeOf(0), 1);
        x.open(0);
        x.close(1);
        x.place(3, 1, 0);
        x.open(1);
        Check.due("placeOf(0)", x.placeOf(0), 0);
        Check.due("reasons(1, 1): r, v or g alone", x.reasons(1, 1), 256);
        Check.due("reasons(2, 1): r and v", x.reasons(2, 1), 64 + 512);
        Check.due("reasons(4, 2): v in room 1, none in room 0", x.reason(4, 2, 1), 'v');
    }
}
