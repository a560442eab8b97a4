/** Promise 23: filling the table by the hardest lessons, with others thrown out. */
public final class FillTest {
    /** The days 1 to 4 off, so that the six hours of the day 0 are all there is. */
    private static final int ONLY_DAY_ZERO = 30;

    public static void main(String[] args) {
        hardestFirst();
        cheapestPlaces();
        tenTimes();
        lockedStay();
        nothingBesideLocked();
        fewestThrownOut();
        givenUp();
        placedStay();
        throughHouses();
        Check.end();
    }

    private static Termgrid oneRoom() {
        Termgrid x = new Termgrid();
        x.addRoom(0, 0, 20);
        x.addTeacher(ONLY_DAY_ZERO);
        x.addGroup(20);
        return x;
    }

    private static void lessons(Termgrid x, int... lengths) {
        for (int length : lengths) {
            x.addLesson(0, 0, 0, length, 0);
        }
        x.setWeight(3, 0);
    }

    private static void hardestFirst() {
        Termgrid x = oneRoom();
        lessons(x, 1, 2, 3);
        Check.due("fill()", x.fill(), 0);
        Check.due("placeOf(2): the longest first", x.placeOf(2), 0);
        Check.due("placeOf(1)", x.placeOf(1), 24);
        Check.due("placeOf(0)", x.placeOf(0), 40);
        Check.due("cost()", x.cost(), 1);
        Check.due("fill(), again", x.fill(), 0);
    }

    private static void cheapestPlaces() {
        Termgrid x = oneRoom();
        lessons(x, 1, 1);
        for (int slot = 0; slot < 6; slot++) {
            x.setWish(0, slot, slot == 3 ? 0 : 5);
        }
        Check.due("fill()", x.fill(), 0);
        Check.due("placeOf(0)", x.placeOf(0), 24);
        Check.due("placeOf(1): no gap", x.placeOf(1), 16);
    }

    private static void tenTimes() {
        Termgrid x = oneRoom();
        lessons(x, 3, 3, 1);
        Check.due("fill()", x.fill(), 1);
        Check.due("placeOf(0), thrown out for the last time but one", x.placeOf(0), 0);
        Check.due("placeOf(1)", x.placeOf(1), 24);
        Check.due("hardest()", x.hardest(), 2);
        x.lock(0);
        Check.due("fill(), locked 0", x.fill(), 1);
        Check.due("placeOf(1), thrown out and back", x.placeOf(1), 24);
        x.addLesson(0, 0, 0, 1, 0);
        x.remove(1);
        Check.due("fill(): 2 and 3 before 1 has no place", x.fill(), 2);
    }

    private static void lockedStay() {
        Termgrid x = oneRoom();
        lessons(x, 1, 1, 1, 3, 3);
        for (int i = 0; i < 4; i++) {
            x.place(i, i, 0);
        }
        x.lock(3);
        Check.due("fill(): 4 throws out 0, 1 and 2; at last 0 throws out 4", x.fill(), 1);
        Check.due("placeOf(0)", x.placeOf(0), 0);
        Check.due("placeOf(1)", x.placeOf(1), 8);
        Check.due("placeOf(2)", x.placeOf(2), 16);
        Check.due("placeOf(3)", x.placeOf(3), 24);
        Check.due("hardest()", x.hardest(), 4);
    }

    private static void nothingBesideLocked() {
        Termgrid x = oneRoom();
        lessons(x, 3, 3, 2);
        x.place(0, 0, 0);
        x.place(1, 3, 0);
        x.lock(0);
        x.lock(1);
        Check.due("fill()", x.fill(), 1);
        Check.due("placeOf(0)", x.placeOf(0), 0);
        Check.due("placeOf(1)", x.placeOf(1), 24);
    }

    private static void fewestThrownOut() {
        Termgrid x = oneRoom();
        x.addTeacher(0);
        lessons(x, 1, 1);
        x.addLesson(0, 1, 0, 2, 0);
        lessons(x, 2, 2);
        x.place(0, 0, 0);
        x.place(1, 1, 0);
        x.place(2, 2, 0);
        x.place(3, 4, 0);
        x.lock(3);
        Check.due("fill(): 2, alone in the way, goes elsewhere", x.fill(), 0);
        Check.due("placeOf(0)", x.placeOf(0), 0);
        Check.due("placeOf(1)", x.placeOf(1), 8);
        Check.due("placeOf(4)", x.placeOf(4), 16);
        Check.due("placeOf(2), on the day 1", x.placeOf(2), 48);
    }

    private static void givenUp() {
        Termgrid x = oneRoom();
        x.addLesson(0, 0, 1, 1, 0);
        x.addTeacher(31);
        x.addLesson(0, 1, 0, 1, 0);
        x.addGroup(21);
        x.addLesson(1, 0, 0, 1, 0);
        x.addLesson(0, 0, 0, 1, 0);
        Check.due("fill(): no room of the kind, no day, no seats", x.fill(), 3);
        Check.due("placeOf(3)", x.placeOf(3), 0);
        x.passDay();
        x.addLesson(0, 0, 0, 1, 0);
        Check.due("fill(): the day is past", x.fill(), 4);
    }

    private static void placedStay() {
        Termgrid x = oneRoom();
        lessons(x, 1, 1);
        x.place(0, 5, 0);
        Check.due("fill()", x.fill(), 0);
        Check.due("placeOf(0), though it costs", x.placeOf(0), 40);
        Check.due("placeOf(1), without a gap", x.placeOf(1), 32);
    }

    /** A lesson is in the way by 'v' alone, too: the room of the house 1 is free all day. */
    private static void throughHouses() {
        Termgrid x = new Termgrid();
        x.addRoom(0, 0, 20);
        x.addRoom(1, 1, 20);
        x.addTeacher(ONLY_DAY_ZERO);
        x.addTeacher(0);
        x.addGroup(20);
        x.addGroup(20);
        x.addLesson(0, 0, 0, 3, 0);
        x.addLesson(0, 0, 1, 3, 0);
        x.addLesson(1, 1, 0, 1, 0);
        x.place(0, 0, 0);
        Check.due("reasons(1, 3): k, v", x.reasons(1, 3), 8 + 512);
        Check.due("fill()", x.fill(), 1);
        Check.due("placeOf(0), back after ten times", x.placeOf(0), 0);
        Check.due("hardest()", x.hardest(), 1);
    }
}
