import java.util.NoSuchElementException;

/** Promises 1 to 7: a new object, rooms, teachers, groups, lessons, wishes and weights. */
public final class SchoolTest {
    private static final Class<IllegalArgumentException> ARGUMENT = IllegalArgumentException.class;
    private static final Class<IllegalStateException> STATE = IllegalStateException.class;
    private static final Class<IndexOutOfBoundsException> INDEX = IndexOutOfBoundsException.class;
    private static final Class<NoSuchElementException> ELEMENT = NoSuchElementException.class;

    public static void main(String[] args) {
        newObject();
        addRoom();
        addTeacher();
        addGroup();
        addLesson();
        setWish();
        setWeight();
        Check.end();
    }

    private static void newObject() {
        Termgrid x = new Termgrid();
        Check.due("today()", x.today(), 0);
        Check.due("cost()", x.cost(), 0);
        Check.due("costAnew()", x.costAnew(), 0);
        Check.due("breaks()", x.breaks(), 0);
        Check.due("fill()", x.fill(), 0);
        Check.due("improve(20)", x.improve(20), 0);
        Check.due("isSound()", x.isSound(), true);
        for (int i = 0; i < 4; i++) {
            Check.due("amount", x.amount(i), 0);
            Check.due("lacking", x.lacking(i), 0);
            Check.due("setWeight", x.setWeight(i, 1), 1);
        }
        Check.refused("hardest()", ELEMENT, x::hardest);
        Check.refused("placedShare()", ArithmeticException.class, x::placedShare);
        Check.refused("close(0)", INDEX, () -> x.close(0));
        Check.refused("account(0)", INDEX, () -> x.account(0));
        Check.refused("groupAt(0, 0)", INDEX, () -> x.groupAt(0, 0));
        Check.refused("isLocked(0)", INDEX, () -> x.isLocked(0));
        Check.refused("restore(0)", ELEMENT, () -> x.restore(0));
        Termgrid y = new Termgrid();
        y.addRoom(0, 0, 1);
        Check.refused("close(0): each object has a school of its own", INDEX, () -> x.close(0));
    }

    private static void addRoom() {
        Termgrid x = new Termgrid();
        Check.refused("addRoom(-1, 0, 1)", ARGUMENT, () -> x.addRoom(-1, 0, 1));
        Check.refused("addRoom(3, 0, 1)", ARGUMENT, () -> x.addRoom(3, 0, 1));
        Check.refused("addRoom(0, -1, 1)", ARGUMENT, () -> x.addRoom(0, -1, 1));
        Check.refused("addRoom(0, 4, 1)", ARGUMENT, () -> x.addRoom(0, 4, 1));
        Check.refused("addRoom(0, 0, 0)", ARGUMENT, () -> x.addRoom(0, 0, 0));
        Check.refused("addRoom(0, 0, 100)", ARGUMENT, () -> x.addRoom(0, 0, 100));
        Check.refused("addRoom(MIN, MAX, MIN)", ARGUMENT,
                () -> x.addRoom(Integer.MIN_VALUE, Integer.MAX_VALUE, Integer.MIN_VALUE));
        Check.due("addRoom(0, 0, 1)", x.addRoom(0, 0, 1), 0);
        Check.due("addRoom(2, 3, 99)", x.addRoom(2, 3, 99), 1);
        for (int i = 2; i < 8; i++) {
            Check.due("addRoom(1, 1, 20)", x.addRoom(1, 1, 20), i);
        }
        Check.refused("addRoom(1, 1, 20), the ninth", STATE, () -> x.addRoom(1, 1, 20));
        Check.refused("addRoom(1, 1, 0), the ninth", ARGUMENT, () -> x.addRoom(1, 1, 0));
        Check.refused("open(7)", STATE, () -> x.open(7));
    }

    private static void addTeacher() {
        Termgrid x = new Termgrid();
        Check.refused("addTeacher(-1)", ARGUMENT, () -> x.addTeacher(-1));
        Check.refused("addTeacher(32)", ARGUMENT, () -> x.addTeacher(32));
        Check.due("addTeacher(31)", x.addTeacher(31), 0);
        Check.due("addTeacher(0)", x.addTeacher(0), 1);
        Check.due("account(0)", x.account(0), 0);
        Check.due("setWish(0, 29, 3)", x.setWish(0, 29, 3), 0);
        Check.due("setWish(1, 29, 3)", x.setWish(1, 29, 3), 0);
        for (int day = 0; day < 5; day++) {
            int on = day;
            Check.refused("ill(0, " + day + ")", STATE, () -> x.ill(0, on));
        }
        Check.due("ill(1, 4)", x.ill(1, 4), 0);
        for (int i = 2; i < 8; i++) {
            Check.due("addTeacher(5)", x.addTeacher(5), i);
        }
        Check.refused("addTeacher(5), the ninth", STATE, () -> x.addTeacher(5));
        Check.refused("addTeacher(32), the ninth", ARGUMENT, () -> x.addTeacher(32));
    }

    private static void addGroup() {
        Termgrid x = new Termgrid();
        Check.refused("addGroup(0)", ARGUMENT, () -> x.addGroup(0));
        Check.refused("addGroup(100)", ARGUMENT, () -> x.addGroup(100));
        Check.due("addGroup(1)", x.addGroup(1), 0);
        Check.due("addGroup(99)", x.addGroup(99), 1);
        for (int i = 2; i < 8; i++) {
            Check.due("addGroup(5)", x.addGroup(5), i);
        }
        Check.refused("addGroup(5), the ninth", STATE, () -> x.addGroup(5));
        Check.refused("addGroup(0), the ninth", ARGUMENT, () -> x.addGroup(0));
    }

    private static void addLesson() {
        Termgrid x = new Termgrid();
        Check.refused("addLesson without groups", INDEX, () -> x.addLesson(0, 0, 9, 9, 99));
        x.addGroup(5);
        Check.refused("addLesson without teachers", INDEX, () -> x.addLesson(0, 0, 0, 1, 0));
        x.addTeacher(0);
        Check.refused("addLesson(1, 0, ..)", INDEX, () -> x.addLesson(1, 0, 0, 1, 0));
        Check.refused("addLesson(-1, 0, ..)", INDEX, () -> x.addLesson(-1, 0, 0, 1, 0));
        Check.refused("addLesson(0, 1, ..)", INDEX, () -> x.addLesson(0, 1, 4, 1, 0));
        Check.refused("addLesson(0, -1, ..)", INDEX, () -> x.addLesson(0, -1, 0, 1, 0));
        Check.refused("kind -1", ARGUMENT, () -> x.addLesson(0, 0, -1, 1, 0));
        Check.refused("kind 4", ARGUMENT, () -> x.addLesson(0, 0, 4, 1, 0));
        Check.refused("length 0", ARGUMENT, () -> x.addLesson(0, 0, 0, 0, 0));
        Check.refused("length 4", ARGUMENT, () -> x.addLesson(0, 0, 0, 4, 0));
        Check.refused("course -1", ARGUMENT, () -> x.addLesson(0, 0, 0, 1, -1));
        Check.refused("course 10", ARGUMENT, () -> x.addLesson(0, 0, 0, 1, 10));
        Check.due("addLesson(0, 0, 0, 1, 0)", x.addLesson(0, 0, 0, 1, 0), 0);
        Check.due("addLesson(0, 0, 3, 3, 9)", x.addLesson(0, 0, 3, 3, 9), 1);
        Check.refused("placeOf(1)", ELEMENT, () -> x.placeOf(1));
        Check.due("isLocked(1)", x.isLocked(1), false);
        for (int i = 2; i < 16; i++) {
            Check.due("addLesson(0, 0, 1, 2, 3)", x.addLesson(0, 0, 1, 2, 3), i);
        }
        Check.refused("the seventeenth", STATE, () -> x.addLesson(0, 0, 1, 2, 3));
        Check.refused("the seventeenth, length 4", ARGUMENT, () -> x.addLesson(0, 0, 1, 4, 3));
        Check.refused("the seventeenth, group 1", INDEX, () -> x.addLesson(1, 0, 1, 4, 3));
        Check.refused("isLocked(16)", INDEX, () -> x.isLocked(16));
    }

    private static void setWish() {
        Termgrid x = new Termgrid();
        Check.refused("setWish(0, 30, 10)", INDEX, () -> x.setWish(0, 30, 10));
        x.addRoom(0, 0, 9);
        x.addTeacher(0);
        x.addTeacher(0);
        x.addGroup(9);
        x.addLesson(0, 0, 0, 2, 0);
        x.place(0, 12, 0);
        Check.refused("setWish(2, 0, 0)", INDEX, () -> x.setWish(2, 0, 0));
        Check.refused("setWish(-1, 0, 0)", INDEX, () -> x.setWish(-1, 0, 0));
        Check.refused("setWish(0, -1, 0)", ARGUMENT, () -> x.setWish(0, -1, 0));
        Check.refused("setWish(0, 30, 0)", ARGUMENT, () -> x.setWish(0, 30, 0));
        Check.refused("setWish(0, 0, -1)", ARGUMENT, () -> x.setWish(0, 0, -1));
        Check.refused("setWish(0, 0, 10)", ARGUMENT, () -> x.setWish(0, 0, 10));
        Check.due("setWish(0, 13, 9)", x.setWish(0, 13, 9), 0);
        Check.due("cost()", x.cost(), 9);
        Check.due("setWish(0, 13, 4)", x.setWish(0, 13, 4), 9);
        Check.due("setWish(0, 12, 2)", x.setWish(0, 12, 2), 0);
        Check.due("setWish(0, 11, 7)", x.setWish(0, 11, 7), 0);
        Check.due("setWish(0, 14, 7)", x.setWish(0, 14, 7), 0);
        Check.due("setWish(1, 12, 8)", x.setWish(1, 12, 8), 0);
        Check.due("amount(2)", x.amount(2), 6);
        Check.due("cost()", x.cost(), 6);
        Check.due("costAnew()", x.costAnew(), 6);
        Check.due("setWish(0, 13, 4)", x.setWish(0, 13, 4), 4);
    }

    private static void setWeight() {
        Termgrid x = new Termgrid();
        Check.refused("setWeight(-1, 0)", ARGUMENT, () -> x.setWeight(-1, 0));
        Check.refused("setWeight(4, 0)", ARGUMENT, () -> x.setWeight(4, 0));
        Check.refused("setWeight(0, -1)", ARGUMENT, () -> x.setWeight(0, -1));
        Check.refused("setWeight(0, 10)", ARGUMENT, () -> x.setWeight(0, 10));
        for (int piece = 0; piece < 4; piece++) {
            Check.due("setWeight", x.setWeight(piece, 9), 1);
            Check.due("setWeight", x.setWeight(piece, 0), 9);
            Check.due("setWeight", x.setWeight(piece, 1), 0);
        }
        x.addRoom(0, 0, 9);
        x.addTeacher(0);
        x.addGroup(9);
        x.addLesson(0, 0, 0, 1, 0);
        x.place(0, 5, 0);
        Check.due("cost()", x.cost(), 1);
        Check.due("setWeight(1, 7)", x.setWeight(1, 7), 1);
        Check.due("cost()", x.cost(), 7);
        Check.due("costAnew()", x.costAnew(), 7);
        Check.due("amount(1)", x.amount(1), 1);
    }
}
