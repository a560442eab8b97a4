/** Promises 25 to 27: the cost as it is kept, the cost from nothing, and the amounts of the pieces. */
public final class CostTest {
    public static void main(String[] args) {
        gaps();
        lateHours();
        wishes();
        crowds();
        weighted();
        keptThroughAll();
        wrongPieces();
        Check.end();
    }

    private static Termgrid school(int lessons, int length) {
        Termgrid x = new Termgrid();
        x.addRoom(0, 0, 20);
        x.addRoom(0, 0, 20);
        for (int i = 0; i < 2; i++) {
            x.addTeacher(0);
            x.addGroup(20);
        }
        for (int i = 0; i < lessons; i++) {
            x.addLesson(0, 0, 0, length, i);
        }
        return x;
    }

    private static void amounts(Termgrid x, String when, int... want) {
        int cost = 0;
        for (int piece = 0; piece < 4; piece++) {
            Check.due("amount(" + piece + ") " + when, x.amount(piece), want[piece]);
            cost += want[piece];
        }
        Check.due("cost() " + when, x.cost(), cost);
        Check.due("costAnew() " + when, x.costAnew(), cost);
    }

    private static void gaps() {
        Termgrid x = school(3, 1);
        x.place(0, 0, 0);
        amounts(x, "with one", 0, 0, 0, 0);
        x.place(1, 4, 0);
        amounts(x, "with 0 and 4", 3, 0, 0, 0);
        x.place(2, 2, 0);
        amounts(x, "with 0, 2 and 4", 2, 0, 0, 0);
        x.place(2, 6, 0);
        amounts(x, "with 0 and 4, and 6", 3, 0, 0, 0);
        x.place(2, 10, 0);
        x.remove(1);
        amounts(x, "with 0 and 10", 0, 0, 0, 0);
        x.addLesson(1, 1, 0, 3, 0);
        x.place(3, 7, 0);
        amounts(x, "with another group", 0, 0, 0, 0);
        x.place(1, 6, 1);
        amounts(x, "with 6 and 10", 3, 0, 0, 0);
    }

    private static void lateHours() {
        Termgrid x = school(2, 3);
        x.place(0, 3, 0);
        amounts(x, "until the last hour", 0, 1, 0, 0);
        x.place(0, 2, 0);
        amounts(x, "until the last but one", 0, 0, 0, 0);
        x.place(0, 3, 0);
        x.place(1, 27, 0);
        amounts(x, "twice", 0, 2, 0, 0);
        for (int day = 1; day < 5; day++) {
            x.passDay();
        }
        x.nextWeek();
        amounts(x, "with an account of 2", 0, 6, 0, 0);
        x.addLesson(1, 1, 0, 1, 0);
        x.place(2, 11, 0);
        amounts(x, "of another teacher", 0, 7, 0, 0);
    }

    private static void wishes() {
        Termgrid x = school(1, 3);
        for (int slot = 0; slot < 30; slot++) {
            x.setWish(0, slot, slot % 10);
            x.setWish(1, slot, 9);
        }
        x.place(0, 0, 0);
        amounts(x, "at 0", 0, 0, 3, 0);
        x.place(0, 7, 0);
        amounts(x, "at 7", 0, 0, 24, 0);
        x.setWish(0, 8, 0);
        amounts(x, "with less at 8", 0, 0, 16, 0);
        x.remove(0);
        amounts(x, "removed", 0, 0, 0, 0);
    }

    private static void crowds() {
        Termgrid x = school(0, 1);
        for (int i = 0; i < 3; i++) {
            x.addLesson(0, i % 2, 0, 1, 7);
        }
        x.addLesson(1, 0, 0, 1, 7);
        x.addLesson(0, 0, 0, 1, 6);
        x.place(0, 0, 0);
        x.place(3, 1, 0);
        x.place(4, 2, 0);
        amounts(x, "other group, other course", 1, 0, 0, 0);
        x.place(1, 1, 1);
        amounts(x, "two", 0, 0, 0, 1);
        x.place(2, 3, 1);
        amounts(x, "three", 0, 0, 0, 3);
        x.place(2, 9, 1);
        amounts(x, "on another day", 0, 0, 0, 1);
    }

    private static void weighted() {
        Termgrid x = school(2, 1);
        x.addLesson(0, 0, 0, 1, 0);
        x.setWish(0, 5, 4);
        x.place(0, 5, 0);
        x.place(1, 0, 0);
        x.place(2, 1, 0);
        amounts(x, "all ones", 3, 1, 4, 1);
        int[] weights = {2, 9, 0, 5};
        for (int piece = 0; piece < 4; piece++) {
            x.setWeight(piece, weights[piece]);
        }
        Check.due("cost()", x.cost(), 6 + 9 + 5);
        Check.due("costAnew()", x.costAnew(), 6 + 9 + 5);
        Check.due("amount(2), without its weight", x.amount(2), 4);
    }

    private static void keptThroughAll() {
        Termgrid x = school(5, 2);
        x.addLesson(1, 1, 0, 3, 0);
        x.setWish(0, 2, 6);
        x.fill();
        Check.due("after fill()", x.cost(), x.costAnew());
        x.setWish(0, 0, 5);
        x.improve(7);
        Check.due("after improve(7)", x.cost(), x.costAnew());
        x.save();
        x.ill(0, 1);
        Check.due("after ill(0, 1)", x.cost(), x.costAnew());
        x.close(0);
        Check.due("after close(0)", x.cost(), x.costAnew());
        x.restore(0);
        Check.due("after restore(0)", x.cost(), x.costAnew());
    }

    private static void wrongPieces() {
        Termgrid x = new Termgrid();
        Check.refused("amount(-1)", IllegalArgumentException.class, () -> x.amount(-1));
        Check.refused("amount(4)", IllegalArgumentException.class, () -> x.amount(4));
        Check.refused("amount(MIN)", IllegalArgumentException.class, () -> x.amount(Integer.MIN_VALUE));
    }
}
