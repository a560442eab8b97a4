/** Promises 28 to 30 and 45: breaks, what lacks, and soundness. */
public final class BoundsTest {
    public static void main(String[] args) {
        breaks();
        hoursOfRooms();
        seats();
        kindsAndClosedRooms();
        wrongKinds();
        sound();
        Check.end();
    }

    private static void lacks(Termgrid x, int kind, int want) {
        Check.due("lacking(" + kind + ")", x.lacking(kind), want);
        Check.due("lackingBySeats(" + kind + ")", x.lackingBySeats(kind), want);
    }

    private static void lessons(Termgrid x, int group, int kind, int count) {
        for (int i = 0; i < count; i++) {
            x.addLesson(group, 0, kind, 3, 0);
        }
    }

    /** Past lessons may stand in a closed room without being breaks; in the next week they are repaired. */
    private static void breaks() {
        Termgrid x = new Termgrid();
        x.addRoom(0, 0, 20);
        x.addTeacher(0);
        x.addGroup(20);
        x.addLesson(0, 0, 0, 1, 0);
        x.addLesson(0, 0, 0, 1, 0);
        x.place(0, 0, 0);
        x.place(1, 6, 0);
        Check.due("breaks()", x.breaks(), 0);
        x.passDay();
        Check.due("breaks(), one past", x.breaks(), 0);
        x.close(0);
        Check.due("breaks(), past in a closed room", x.breaks(), 0);
        Check.due("placeOf(0)", x.placeOf(0), 0);
        x.passDay();
        x.passDay();
        x.passDay();
        x.nextWeek();
        Check.due("breaks(), in the next week", x.breaks(), 0);
        Check.refused("placeOf(0)", java.util.NoSuchElementException.class, () -> x.placeOf(0));
    }

    private static void hoursOfRooms() {
        Termgrid x = new Termgrid();
        x.addTeacher(0);
        x.addGroup(20);
        lessons(x, 0, 1, 10);
        lacks(x, 1, 30);
        x.addRoom(0, 1, 20);
        lacks(x, 1, 0);
        x.addLesson(0, 0, 1, 1, 0);
        lacks(x, 1, 1);
        lessons(x, 0, 1, 5);
        lacks(x, 1, 16);
        x.addRoom(0, 1, 20);
        lacks(x, 1, 0);
    }

    private static void seats() {
        Termgrid x = new Termgrid();
        x.addTeacher(0);
        x.addGroup(10);
        x.addGroup(30);
        x.addGroup(31);
        x.addRoom(0, 0, 9);
        x.addRoom(0, 0, 10);
        x.addRoom(0, 0, 30);
        lessons(x, 0, 0, 4);
        lacks(x, 0, 0);
        lessons(x, 1, 0, 11);
        lacks(x, 0, 3);
        lessons(x, 2, 0, 1);
        lacks(x, 0, 6);
        x.close(1);
        lacks(x, 0, 12 + 33 + 3 - 30);
        x.addRoom(2, 0, 31);
        lacks(x, 0, 0);
        x.close(2);
        lacks(x, 0, 12 + 33 + 3 - 30);
    }

    private static void kindsAndClosedRooms() {
        Termgrid x = new Termgrid();
        x.addTeacher(31);
        x.addGroup(20);
        x.addRoom(0, 2, 20);
        lessons(x, 0, 2, 1);
        lessons(x, 0, 3, 2);
        lacks(x, 0, 0);
        lacks(x, 2, 0);
        lacks(x, 3, 6);
        x.close(0);
        lacks(x, 2, 3);
        x.open(0);
        lacks(x, 2, 0);
        x.addTeacher(0);
        x.addLesson(0, 1, 2, 1, 0);
        x.place(3, 0, 0);
        lacks(x, 2, 0);
        x.passDay();
        lacks(x, 2, 0);
    }

    private static void wrongKinds() {
        Termgrid x = new Termgrid();
        int[] wrong = {-1, 4, Integer.MIN_VALUE, Integer.MAX_VALUE};
        for (int kind : wrong) {
            Check.refused("lacking", IllegalArgumentException.class, () -> x.lacking(kind));
            Check.refused("lackingBySeats", IllegalArgumentException.class, () -> x.lackingBySeats(kind));
        }
        lacks(x, 0, 0);
        lacks(x, 3, 0);
    }

    private static void sound() {
        Termgrid x = new Termgrid();
        Check.due("isSound(), empty", x.isSound(), true);
        for (int i = 0; i < 3; i++) {
            x.addRoom(i, i % 2, 10 + i);
            x.addTeacher(1 << i);
            x.addGroup(10 + i);
        }
        for (int i = 0; i < 12; i++) {
            x.addLesson(i % 3, i / 4, i % 2, 1 + i % 3, i % 4);
            Check.due("isSound()", x.isSound(), true);
        }
        x.fill();
        Check.due("isSound(), filled", x.isSound(), true);
        for (int slot = 0; slot < 30; slot++) {
            x.setWish(slot % 3, slot, slot % 10);
        }
        Check.due("isSound(), with wishes", x.isSound(), true);
        x.improve(20);
        Check.due("isSound(), improved", x.isSound(), true);
        x.passDay();
        x.close(2);
        Check.due("isSound(), with a closed room", x.isSound(), true);
    }
}
