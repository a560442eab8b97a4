import java.util.NoSuchElementException;

/** Promises 10 to 22: placing by hand, locks, looking at the table, possible and cheapest places. */
public final class PlacesTest {
    private static final Class<IllegalArgumentException> ARGUMENT = IllegalArgumentException.class;
    private static final Class<IllegalStateException> STATE = IllegalStateException.class;
    private static final Class<IndexOutOfBoundsException> INDEX = IndexOutOfBoundsException.class;
    private static final Class<NoSuchElementException> ELEMENT = NoSuchElementException.class;
    private static final Class<UnsupportedOperationException> BARRED = UnsupportedOperationException.class;

    public static void main(String[] args) {
        place();
        placeInOrderOfExceptions();
        remove();
        lockAndUnlock();
        placeOf();
        groupAtAndTeacherAt();
        possible();
        cheapest();
        costWith();
        hardest();
        Check.end();
    }

    /** Rooms 0 and 1 in the houses 0 and 1; each of the lessons 0 to 2 has a teacher and a group of its own. */
    private static Termgrid school() {
        Termgrid x = new Termgrid();
        x.addRoom(0, 0, 20);
        x.addRoom(1, 0, 20);
        for (int i = 0; i < 3; i++) {
            x.addTeacher(0);
            x.addGroup(20);
            x.addLesson(i, i, 0, i + 1, 0);
        }
        return x;
    }

    private static void place() {
        Termgrid x = school();
        x.setWish(1, 8, 5);
        Check.due("place(1, 7, 0)", x.place(1, 7, 0), 5);
        Check.due("place(1, 7, 1), the room alone", x.place(1, 7, 1), 5);
        Check.due("place(1, 7, 1), where it is", x.place(1, 7, 1), 5);
        Check.due("place(1, 8, 1), over its own hours", x.place(1, 8, 1), 5);
        Check.due("place(1, 10, 1)", x.place(1, 10, 1), 1);
        Check.due("place(0, 29, 1)", x.place(0, 29, 1), 2);
        Check.due("placeOf(1)", x.placeOf(1), 81);
        Check.refused("place(0, 11, 1)", BARRED, () -> x.place(0, 11, 1));
        Check.due("placeOf(0)", x.placeOf(0), 8 * 29 + 1);
        Check.due("cost()", x.cost(), 2);
        x.lock(0);
        Check.refused("place(0, 0, 0), locked", STATE, () -> x.place(0, 0, 0));
        x.passDay();
        x.passDay();
        Check.refused("place(1, 20, 0), past", STATE, () -> x.place(1, 20, 0));
        Check.refused("place(2, 11, 0)", BARRED, () -> x.place(2, 11, 0));
        Check.due("place(2, 12, 0)", x.place(2, 12, 0), 2);
    }

    private static void placeInOrderOfExceptions() {
        Termgrid x = school();
        Check.refused("place(3, 30, 2)", INDEX, () -> x.place(3, 30, 2));
        Check.refused("place(-1, 0, 0)", INDEX, () -> x.place(-1, 0, 0));
        Check.refused("place(0, 30, 0)", ARGUMENT, () -> x.place(0, 30, 0));
        Check.refused("place(0, -1, 0)", ARGUMENT, () -> x.place(0, -1, 0));
        Check.refused("place(0, 0, 2)", ARGUMENT, () -> x.place(0, 0, 2));
        Check.refused("place(0, 0, -1)", ARGUMENT, () -> x.place(0, 0, -1));
        x.place(1, 0, 0);
        x.lock(1);
        Check.refused("place(1, 5, 0), locked and barred", STATE, () -> x.place(1, 5, 0));
        Check.refused("place(1, 5, 2), locked, no room", ARGUMENT, () -> x.place(1, 5, 2));
    }

    private static void remove() {
        Termgrid x = school();
        Check.refused("remove(3)", INDEX, () -> x.remove(3));
        Check.refused("remove(-1)", INDEX, () -> x.remove(-1));
        Check.refused("remove(0), not placed", STATE, () -> x.remove(0));
        x.place(0, 5, 0);
        x.place(1, 10, 0);
        Check.due("remove(0)", x.remove(0), 1);
        Check.due("remove(1)", x.remove(1), 0);
        Check.refused("remove(1), again", STATE, () -> x.remove(1));
        x.place(0, 5, 0);
        x.place(1, 10, 0);
        x.lock(1);
        Check.refused("remove(1), locked", STATE, () -> x.remove(1));
        x.unlock(1);
        x.passDay();
        Check.refused("remove(0), past", STATE, () -> x.remove(0));
        Check.due("remove(1), today", x.remove(1), 1);
    }

    private static void lockAndUnlock() {
        Termgrid x = school();
        Check.refused("lock(3)", INDEX, () -> x.lock(3));
        Check.refused("unlock(3)", INDEX, () -> x.unlock(3));
        Check.refused("isLocked(3)", INDEX, () -> x.isLocked(3));
        Check.refused("lock(-1)", INDEX, () -> x.lock(-1));
        Check.refused("unlock(-1)", INDEX, () -> x.unlock(-1));
        Check.refused("isLocked(-1)", INDEX, () -> x.isLocked(-1));
        Check.refused("lock(0), not placed", STATE, () -> x.lock(0));
        Check.refused("unlock(0), not locked", STATE, () -> x.unlock(0));
        x.place(0, 0, 0);
        x.place(1, 0, 1);
        x.place(2, 6, 1);
        Check.due("lock(0)", x.lock(0), 1);
        Check.due("lock(2)", x.lock(2), 2);
        Check.refused("lock(0), locked", STATE, () -> x.lock(0));
        Check.due("isLocked(0)", x.isLocked(0), true);
        Check.due("isLocked(1)", x.isLocked(1), false);
        x.passDay();
        Check.refused("lock(1), past", STATE, () -> x.lock(1));
        Check.due("unlock(0), past", x.unlock(0), 1);
        Check.due("isLocked(0)", x.isLocked(0), false);
        Check.refused("lock(0), past", STATE, () -> x.lock(0));
        Check.due("unlock(2)", x.unlock(2), 0);
        Check.refused("unlock(2), again", STATE, () -> x.unlock(2));
    }

    private static void placeOf() {
        Termgrid x = school();
        Check.refused("placeOf(3)", INDEX, () -> x.placeOf(3));
        Check.refused("placeOf(-1)", INDEX, () -> x.placeOf(-1));
        Check.refused("placeOf(0)", ELEMENT, () -> x.placeOf(0));
        x.place(0, 29, 1);
        Check.due("placeOf(0)", x.placeOf(0), 233);
        x.place(0, 0, 0);
        Check.due("placeOf(0)", x.placeOf(0), 0);
        x.passDay();
        Check.due("placeOf(0), past", x.placeOf(0), 0);
    }

    private static void groupAtAndTeacherAt() {
        Termgrid x = school();
        x.addLesson(0, 2, 0, 2, 0);
        x.place(0, 0, 0);
        x.place(2, 9, 0);
        x.place(3, 3, 1);
        Check.refused("groupAt(3, 30)", INDEX, () -> x.groupAt(3, 30));
        Check.refused("groupAt(-1, 0)", INDEX, () -> x.groupAt(-1, 0));
        Check.refused("groupAt(0, 30)", ARGUMENT, () -> x.groupAt(0, 30));
        Check.refused("groupAt(0, -1)", ARGUMENT, () -> x.groupAt(0, -1));
        Check.due("groupAt(0, 0)", x.groupAt(0, 0), 0);
        Check.refused("groupAt(0, 1)", ELEMENT, () -> x.groupAt(0, 1));
        Check.refused("groupAt(0, 2)", ELEMENT, () -> x.groupAt(0, 2));
        Check.due("groupAt(0, 3)", x.groupAt(0, 3), 3);
        Check.due("groupAt(0, 4)", x.groupAt(0, 4), 3);
        Check.refused("groupAt(0, 5)", ELEMENT, () -> x.groupAt(0, 5));
        Check.refused("groupAt(1, 0)", ELEMENT, () -> x.groupAt(1, 0));
        Check.refused("teacherAt(3, 30)", INDEX, () -> x.teacherAt(3, 30));
        Check.refused("teacherAt(-1, 0)", INDEX, () -> x.teacherAt(-1, 0));
        Check.refused("teacherAt(0, 30)", ARGUMENT, () -> x.teacherAt(0, 30));
        Check.refused("teacherAt(0, -1)", ARGUMENT, () -> x.teacherAt(0, -1));
        Check.due("teacherAt(0, 0)", x.teacherAt(0, 0), 0);
        Check.due("teacherAt(2, 3)", x.teacherAt(2, 3), 3);
        Check.refused("teacherAt(2, 5)", ELEMENT, () -> x.teacherAt(2, 5));
        Check.refused("teacherAt(2, 8)", ELEMENT, () -> x.teacherAt(2, 8));
        Check.due("teacherAt(2, 9)", x.teacherAt(2, 9), 2);
        Check.due("teacherAt(2, 11)", x.teacherAt(2, 11), 2);
        Check.refused("teacherAt(2, 12)", ELEMENT, () -> x.teacherAt(2, 12));
        Check.refused("teacherAt(1, 9)", ELEMENT, () -> x.teacherAt(1, 9));
    }

    private static void possible() {
        Termgrid x = school();
        Check.refused("possible(3)", INDEX, () -> x.possible(3));
        Check.refused("possible(-1)", INDEX, () -> x.possible(-1));
        Check.refused("possibleAt(3, 0)", INDEX, () -> x.possibleAt(3, 0));
        Check.refused("possibleAt(-1, -1)", INDEX, () -> x.possibleAt(-1, -1));
        Check.due("possible(0)", x.possible(0), 60);
        Check.due("possible(1)", x.possible(1), 50);
        Check.due("possible(2)", x.possible(2), 40);
        x.place(0, 0, 0);
        Check.due("possible(0), its own one included", x.possible(0), 60);
        Check.due("possible(1)", x.possible(1), 49);
        Check.due("possibleAt(1, 0)", x.possibleAt(1, 0), 1);
        Check.due("possibleAt(1, 1)", x.possibleAt(1, 1), 8);
        Check.due("possibleAt(1, 8)", x.possibleAt(1, 8), 33);
        Check.due("possibleAt(1, 9)", x.possibleAt(1, 9), 48);
        Check.due("possibleAt(1, 48)", x.possibleAt(1, 48), 8 * 28 + 1);
        Check.refused("possibleAt(1, 49)", ELEMENT, () -> x.possibleAt(1, 49));
        Check.refused("possibleAt(1, -1)", ELEMENT, () -> x.possibleAt(1, -1));
        Check.refused("possibleAt(1, MIN)", ELEMENT, () -> x.possibleAt(1, Integer.MIN_VALUE));
        Check.refused("possibleAt(1, MAX)", ELEMENT, () -> x.possibleAt(1, Integer.MAX_VALUE));
        x.lock(0);
        Check.due("possible(0), locked", x.possible(0), 60);
        x.passDay();
        Check.due("possible(0), past", x.possible(0), 48);
        Check.due("possibleAt(0, 0), past", x.possibleAt(0, 0), 48);
    }

    private static void cheapest() {
        Termgrid x = school();
        Check.refused("cheapest(3)", INDEX, () -> x.cheapest(3));
        Check.refused("cheapest(-1)", INDEX, () -> x.cheapest(-1));
        Check.due("cheapest(0)", x.cheapest(0), 0);
        for (int slot = 0; slot < 29; slot++) {
            x.setWish(0, slot, slot == 7 || slot == 9 ? 3 : 4);
        }
        Check.due("cheapest(0): late hours count", x.cheapest(0), 8 * 29);
        x.setWish(0, 29, 2);
        Check.due("cheapest(0): the lowest of several", x.cheapest(0), 56);
        x.place(0, 9, 1);
        Check.due("cheapest(0), where it is placed now", x.cheapest(0), 56);
        x.place(1, 6, 0);
        Check.due("cheapest(0), in the next room", x.cheapest(0), 57);
        x.close(0);
        x.close(1);
        Check.refused("cheapest(0)", ELEMENT, () -> x.cheapest(0));
    }

    private static void costWith() {
        Termgrid x = school();
        x.addLesson(0, 1, 0, 1, 0);
        Check.refused("costWith(4, 30, 2)", INDEX, () -> x.costWith(4, 30, 2));
        Check.refused("costWith(-1, 0, 0)", INDEX, () -> x.costWith(-1, 0, 0));
        Check.refused("costWith(0, 30, 0)", ARGUMENT, () -> x.costWith(0, 30, 0));
        Check.refused("costWith(0, -1, 0)", ARGUMENT, () -> x.costWith(0, -1, 0));
        Check.refused("costWith(0, 0, 2)", ARGUMENT, () -> x.costWith(0, 0, 2));
        Check.refused("costWith(0, 0, -1)", ARGUMENT, () -> x.costWith(0, 0, -1));
        x.place(0, 0, 0);
        Check.refused("costWith(1, 0, 0)", BARRED, () -> x.costWith(1, 0, 0));
        Check.due("costWith(3, 6, 0)", x.costWith(3, 6, 0), 0);
        Check.due("costWith(3, 1, 0): a crowd", x.costWith(3, 1, 0), 1);
        Check.due("costWith(3, 2, 1): a crowd, a gap", x.costWith(3, 2, 1), 2);
        Check.due("costWith(3, 5, 0): a crowd, gaps, late", x.costWith(3, 5, 0), 6);
        x.setWeight(0, 3);
        Check.due("costWith(3, 5, 0)", x.costWith(3, 5, 0), 14);
        Check.due("place(3, 4, 0)", x.place(3, 4, 0), 10);
        Check.due("costWith(3, 5, 0), from 4", x.costWith(3, 5, 0), 14);
        Check.due("costWith(3, 4, 0), where it is", x.costWith(3, 4, 0), 10);
        Check.due("costWith(0, 3, 0)", x.costWith(0, 3, 0), 1);
        Check.due("cost() stays", x.cost(), 10);
        x.lock(0);
        Check.due("costWith(0, 3, 0), locked", x.costWith(0, 3, 0), 1);
        x.passDay();
        Check.refused("costWith(0, 3, 0), past", BARRED, () -> x.costWith(0, 3, 0));
        Check.due("costWith(0, 6, 0), past", x.costWith(0, 6, 0), 0);
    }

    private static void hardest() {
        Termgrid x = new Termgrid();
        Check.refused("hardest(), no lessons", ELEMENT, x::hardest);
        x.addRoom(0, 0, 20);
        x.addTeacher(0);
        x.addTeacher(1);
        x.addGroup(20);
        x.addLesson(0, 0, 0, 2, 0);
        x.addLesson(0, 0, 0, 3, 0);
        x.addLesson(0, 0, 0, 3, 0);
        x.addLesson(0, 1, 0, 2, 0);
        Check.due("hardest(): 25, 20, 20, 20", x.hardest(), 1);
        x.place(1, 0, 0);
        Check.due("hardest(): 22, -, 16, 20", x.hardest(), 2);
        x.place(2, 6, 0);
        Check.due("hardest(): 19, -, -, 17", x.hardest(), 3);
        x.place(3, 12, 0);
        Check.due("hardest()", x.hardest(), 0);
        x.place(0, 18, 0);
        Check.refused("hardest(), all placed", ELEMENT, x::hardest);
    }
}
