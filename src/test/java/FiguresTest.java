/** Promises 43 and 44: the share of the lessons that are placed, and the mean number of possible places. */
public final class FiguresTest {
    public static void main(String[] args) {
        noLessons();
        shareAndMean();
        Check.end();
    }

    private static void noLessons() {
        Termgrid x = new Termgrid();
        x.addRoom(0, 0, 20);
        x.addTeacher(0);
        x.addGroup(20);
        Check.refused("placedShare()", ArithmeticException.class, x::placedShare);
        Check.refused("meanPossible()", ArithmeticException.class, x::meanPossible);
    }

    private static void shareAndMean() {
        Termgrid x = new Termgrid();
        x.addTeacher(0);
        x.addGroup(20);
        x.addLesson(0, 0, 0, 1, 0);
        Check.due("meanPossible(), no rooms", x.meanPossible(), 0.0);
        Check.due("placedShare()", x.placedShare(), 0.0f);
        x.addRoom(0, 0, 20);
        x.addLesson(0, 0, 0, 2, 0);
        x.addLesson(0, 0, 1, 2, 0);
        Check.due("meanPossible()", x.meanPossible(), 55.0 / 3.0);
        x.place(0, 0, 0);
        Check.due("placedShare()", x.placedShare(), 1.0f / 3.0f);
        Check.due("meanPossible(), one in the way, one its own", x.meanPossible(), 54.0 / 3.0);
        x.place(1, 1, 0);
        Check.due("placedShare()", x.placedShare(), 2.0f / 3.0f);
        Check.due("meanPossible()", x.meanPossible(), 52.0 / 3.0);
        x.addRoom(0, 1, 20);
        x.place(2, 12, 1);
        Check.due("placedShare()", x.placedShare(), 1.0f);
    }
}
