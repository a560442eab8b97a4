import java.util.NoSuchElementException;

/** Promises 38 to 42: versions that are saved, compared, restored and merged. */
public final class VersionTest {
    private static final Class<IllegalStateException> STATE = IllegalStateException.class;
    private static final Class<IndexOutOfBoundsException> INDEX = IndexOutOfBoundsException.class;
    private static final Class<NoSuchElementException> ELEMENT = NoSuchElementException.class;

    public static void main(String[] args) {
        save();
        placeIn();
        differences();
        restore();
        restoreWhatIsPossible();
        restoreOnlyFreeLessons();
        merge();
        mergeConflicts();
        mergeByRisingNumbers();
        noSuchVersions();
        Check.end();
    }

    private static Termgrid school(int lessons) {
        Termgrid x = new Termgrid();
        x.addRoom(0, 0, 20);
        x.addTeacher(0);
        x.addGroup(20);
        for (int i = 0; i < lessons; i++) {
            x.addLesson(0, 0, 0, 1, i);
        }
        return x;
    }

    private static void save() {
        Termgrid x = school(1);
        for (int i = 0; i < 6; i++) {
            x.place(0, i, 0);
            Check.due("save()", x.save(), i);
        }
        Check.refused("save(), the seventh", STATE, x::save);
        x.remove(0);
        for (int i = 0; i < 6; i++) {
            Check.due("placeIn(" + i + ", 0)", x.placeIn(i, 0), 8 * i);
        }
    }

    private static void placeIn() {
        Termgrid x = school(2);
        Check.refused("placeIn(0, 9), no version", ELEMENT, () -> x.placeIn(0, 9));
        x.place(0, 29, 0);
        x.save();
        x.addLesson(0, 0, 0, 1, 0);
        x.place(2, 3, 0);
        Check.due("placeIn(0, 0)", x.placeIn(0, 0), 232);
        Check.refused("placeIn(0, 1), not placed in it", ELEMENT, () -> x.placeIn(0, 1));
        Check.refused("placeIn(0, 2), a later one", ELEMENT, () -> x.placeIn(0, 2));
        Check.refused("placeIn(0, 3)", INDEX, () -> x.placeIn(0, 3));
        Check.refused("placeIn(0, -1)", INDEX, () -> x.placeIn(0, -1));
        Check.refused("placeIn(0, MAX)", INDEX, () -> x.placeIn(0, Integer.MAX_VALUE));
        Check.refused("placeIn(1, 3)", ELEMENT, () -> x.placeIn(1, 3));
        Check.refused("placeIn(-1, 0)", ELEMENT, () -> x.placeIn(-1, 0));
    }

    private static void differences() {
        Termgrid x = school(3);
        x.place(0, 0, 0);
        x.place(1, 1, 0);
        x.save();
        x.place(0, 5, 0);
        x.save();
        x.remove(1);
        x.place(2, 1, 0);
        x.save();
        x.addLesson(0, 0, 0, 1, 0);
        x.place(3, 8, 0);
        x.save();
        Check.due("differences(0, 0)", x.differences(0, 0), 0);
        Check.due("differences(0, 1)", x.differences(0, 1), 1);
        Check.due("differences(1, 0)", x.differences(1, 0), 1);
        Check.due("differences(0, 2)", x.differences(0, 2), 3);
        Check.due("differences(1, 2)", x.differences(1, 2), 2);
        Check.due("differences(2, 3), a later lesson", x.differences(2, 3), 1);
        Check.refused("differences(0, 4)", ELEMENT, () -> x.differences(0, 4));
        Check.refused("differences(4, 0)", ELEMENT, () -> x.differences(4, 0));
        Check.refused("differences(-1, 0)", ELEMENT, () -> x.differences(-1, 0));
    }

    private static void restore() {
        Termgrid x = school(3);
        x.place(0, 0, 0);
        x.place(1, 1, 0);
        x.save();
        x.place(0, 9, 0);
        x.remove(1);
        x.place(2, 0, 0);
        x.addLesson(0, 0, 0, 1, 0);
        x.place(3, 1, 0);
        Check.due("restore(0)", x.restore(0), 0);
        Check.due("placeOf(0)", x.placeOf(0), 0);
        Check.due("placeOf(1)", x.placeOf(1), 8);
        Check.refused("placeOf(2), not placed in it", ELEMENT, () -> x.placeOf(2));
        Check.refused("placeOf(3), a later one", ELEMENT, () -> x.placeOf(3));
        Check.due("cost()", x.cost(), 0);
        Check.due("restore(0), again", x.restore(0), 0);
    }

    private static void restoreWhatIsPossible() {
        Termgrid x = school(3);
        x.addRoom(0, 0, 20);
        x.place(0, 0, 0);
        x.place(1, 6, 1);
        x.place(2, 12, 1);
        x.save();
        x.ill(0, 2);
        x.close(0);
        Check.due("restore(0)", x.restore(0), 2);
        Check.refused("placeOf(0): the room is closed", ELEMENT, () -> x.placeOf(0));
        Check.due("placeOf(1)", x.placeOf(1), 49);
        Check.refused("placeOf(2): a day off", ELEMENT, () -> x.placeOf(2));
    }

    private static void restoreOnlyFreeLessons() {
        Termgrid x = school(4);
        for (int i = 0; i < 4; i++) {
            x.place(i, i, 0);
        }
        x.save();
        x.place(0, 6, 0);
        x.lock(0);
        x.place(1, 0, 0);
        x.place(2, 7, 0);
        x.place(3, 13, 0);
        x.passDay();
        Check.due("restore(0): 0 is locked, 1 past; the others' day is past", x.restore(0), 4);
        Check.due("placeOf(0)", x.placeOf(0), 48);
        Check.due("placeOf(1)", x.placeOf(1), 0);
        Check.refused("placeOf(2)", ELEMENT, () -> x.placeOf(2));
        Check.refused("placeOf(3)", ELEMENT, () -> x.placeOf(3));
        Check.due("isLocked(0)", x.isLocked(0), true);
    }

    private static void merge() {
        Termgrid x = school(5);
        for (int i = 0; i < 4; i++) {
            x.place(i, i, 0);
        }
        x.save();
        x.place(0, 6, 0);
        x.remove(1);
        x.place(4, 12, 0);
        x.save();
        x.restore(0);
        x.place(2, 18, 0);
        x.remove(3);
        Check.due("merge(0, 1)", x.merge(0, 1), 0);
        Check.due("placeOf(0), changed by the version", x.placeOf(0), 48);
        Check.refused("placeOf(1), removed by the version", ELEMENT, () -> x.placeOf(1));
        Check.due("placeOf(2), changed by the table", x.placeOf(2), 144);
        Check.refused("placeOf(3), removed by the table", ELEMENT, () -> x.placeOf(3));
        Check.due("placeOf(4), placed by the version", x.placeOf(4), 96);
        Check.due("merge(0, 0), nothing changed by it", x.merge(0, 0), 0);
        Check.due("placeOf(2)", x.placeOf(2), 144);
        Check.due("merge(1, 1)", x.merge(1, 1), 0);
        Check.due("placeOf(0)", x.placeOf(0), 48);
    }

    private static void mergeConflicts() {
        Termgrid x = school(5);
        for (int i = 0; i < 5; i++) {
            x.place(i, i, 0);
        }
        x.save();
        x.place(0, 6, 0);
        x.place(1, 7, 0);
        x.remove(2);
        x.place(3, 8, 0);
        x.place(4, 9, 0);
        x.save();
        x.restore(0);
        x.place(0, 12, 0);
        x.place(1, 7, 0);
        x.place(2, 13, 0);
        x.remove(3);
        x.place(4, 14, 0);
        x.lock(4);
        Check.due("merge(0, 1): 0, 2, 3 and the locked 4, not 1", x.merge(0, 1), 4);
        Check.due("placeOf(0), that of the table", x.placeOf(0), 96);
        Check.due("placeOf(1), changed in the same way", x.placeOf(1), 56);
        Check.due("placeOf(2)", x.placeOf(2), 104);
        Check.refused("placeOf(3)", ELEMENT, () -> x.placeOf(3));
        Check.due("placeOf(4)", x.placeOf(4), 112);
    }

    /** The version puts 0 where the table has 1: 0 comes first, and 1 has no place then. */
    private static void mergeByRisingNumbers() {
        Termgrid x = school(2);
        x.place(0, 0, 0);
        x.place(1, 2, 0);
        x.save();
        x.place(0, 1, 0);
        x.save();
        x.restore(0);
        x.place(1, 1, 0);
        Check.due("merge(0, 1)", x.merge(0, 1), 0);
        Check.due("placeOf(0)", x.placeOf(0), 8);
        Check.refused("placeOf(1)", ELEMENT, () -> x.placeOf(1));
        x.restore(0);
        x.place(1, 1, 0);
        x.lock(1);
        Check.due("merge(0, 1), locked 1", x.merge(0, 1), 0);
        Check.refused("placeOf(0): neither there nor where it was", ELEMENT, () -> x.placeOf(0));
        Check.due("placeOf(1)", x.placeOf(1), 8);
        Check.due("cost()", x.cost(), 0);
    }

    private static void noSuchVersions() {
        Termgrid x = school(1);
        Check.refused("restore(0)", ELEMENT, () -> x.restore(0));
        x.place(0, 4, 0);
        x.save();
        int[] wrong = {-1, 1, 6, Integer.MAX_VALUE, Integer.MIN_VALUE};
        for (int version : wrong) {
            Check.refused("restore", ELEMENT, () -> x.restore(version));
            Check.refused("merge as version", ELEMENT, () -> x.merge(0, version));
            Check.refused("merge as base", ELEMENT, () -> x.merge(version, 0));
            Check.refused("differences", ELEMENT, () -> x.differences(0, version));
            Check.refused("placeIn", ELEMENT, () -> x.placeIn(version, 0));
        }
        Check.due("placeOf(0)", x.placeOf(0), 32);
    }
}
