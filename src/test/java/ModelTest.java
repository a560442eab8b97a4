import java.util.NoSuchElementException;
import java.util.function.Supplier;

/** Long runs of calls, drawn by numbers that are the same each time, on Termgrid and on PlainSchool. */
public final class ModelTest {
    private static final int DEFAULT_RUNS = 160;
    private static final int CALLS = 180;
    private static int wrong;

    private final Termgrid grid = new Termgrid();
    private final PlainSchool plain = new PlainSchool();
    private final StringBuilder told = new StringBuilder();
    private final boolean small;
    private long seed;
    private boolean differs;

    private ModelTest(long seed) {
        this.seed = seed * 0x9E3779B97F4A7C15L + 1;
        this.small = seed % 3 != 0;
    }

    public static void main(String[] args) {
        int runs = args.length > 0 ? Integer.parseInt(args[0]) : DEFAULT_RUNS;
        int from = args.length > 1 ? Integer.parseInt(args[1]) : 0;
        for (int run = from; run < from + runs && wrong < 3; run++) {
            ModelTest test = new ModelTest(run);
            test.run();
            if (test.differs) {
                wrong++;
                System.out.println("run " + run + ":\n" + test.told);
            }
        }
        System.out.println(wrong == 0 ? "both answer alike" : "they differ");
        if (wrong != 0) {
            System.exit(1);
        }
    }

    /** A number from 0 to below count. */
    private int draw(int count) {
        seed ^= seed << 13;
        seed ^= seed >>> 7;
        seed ^= seed << 17;
        return (int) Math.floorMod(seed >>> 11, (long) count);
    }

    /** Mostly a number from 0 to below count, now and then one beside it. */
    private int about(int count) {
        int kind = draw(40);
        if (kind == 0) {
            return -1;
        }
        if (kind == 1) {
            return count;
        }
        if (kind == 2) {
            return draw(2) == 0 ? Integer.MIN_VALUE : Integer.MAX_VALUE;
        }
        return draw(Math.max(1, count));
    }

    private static String answerOf(Supplier<Object> call) {
        try {
            return String.valueOf(call.get());
        } catch (UnsupportedOperationException e) {
            return "throws.UnsupportedOperationException";
        } catch (NoSuchElementException e) {
            return "throws.NoSuchElementException";
        } catch (IndexOutOfBoundsException e) {
            return e.getClass() == IndexOutOfBoundsException.class ? "throws.IndexOutOfBoundsException" : "" + e;
        } catch (IllegalStateException e) {
            return "throws.IllegalStateException";
        } catch (IllegalArgumentException e) {
            return "throws.IllegalArgumentException";
        } catch (ArithmeticException e) {
            return "throws.ArithmeticException " + (e.getMessage() != null && e.getMessage().contains("/ by zero"));
        }
    }

    private void both(String call, Supplier<Object> ofGrid, Supplier<Object> ofPlain) {
        String got = answerOf(ofGrid);
        String due = answerOf(ofPlain);
        due = due.equals("throws.ArithmeticException false") ? got.startsWith(due) ? got : due : due;
        told.append(call).append(" = ").append(got).append('\n');
        if (!got.equals(due)) {
            told.append("   due is ").append(due).append('\n');
            differs = true;
        }
    }

    private void run() {
        int rooms = small ? 1 + draw(3) : 1 + draw(8);
        int teachers = small ? 1 + draw(3) : 1 + draw(8);
        int groups = small ? 1 + draw(3) : 1 + draw(8);
        int lessons = small ? 2 + draw(9) : 2 + draw(15);
        int kinds = small ? 1 : 1 + draw(3);
        int offs = draw(3);
        if (draw(5) > 0) {
            school(rooms, teachers, groups, lessons, kinds, offs);
        }
        for (int call = 0; call < CALLS && !differs; call++) {
            call(draw(100), kinds);
            compareAll(call % 8 == 0);
        }
    }

    private void school(int rooms, int teachers, int groups, int lessons, int kinds, int offs) {
        for (int i = 0; i < rooms; i++) {
            int house = draw(3);
            int kind = draw(kinds);
            int seats = 10 + draw(30);
            both("addRoom(" + house + ", " + kind + ", " + seats + ")",
                    () -> grid.addRoom(house, kind, seats), () -> plain.addRoom(house, kind, seats));
        }
        for (int i = 0; i < teachers; i++) {
            int days = offs == 0 ? 0 : offs == 1 ? draw(32) : 30 & draw(32) | draw(32) & 24;
            both("addTeacher(" + days + ")", () -> grid.addTeacher(days), () -> plain.addTeacher(days));
        }
        for (int i = 0; i < groups; i++) {
            int pupils = 1 + draw(25);
            both("addGroup(" + pupils + ")", () -> grid.addGroup(pupils), () -> plain.addGroup(pupils));
        }
        for (int i = 0; i < lessons; i++) {
            addLesson(draw(groups), draw(teachers), draw(kinds), 1 + draw(3), draw(3));
        }
    }

    private void addLesson(int group, int teacher, int kind, int length, int course) {
        both("addLesson(" + group + ", " + teacher + ", " + kind + ", " + length + ", " + course + ")",
                () -> grid.addLesson(group, teacher, kind, length, course),
                () -> plain.addLesson(group, teacher, kind, length, course));
    }

    private void call(int which, int kinds) {
        if (which < 6) {
            grow(kinds);
        } else if (which < 20) {
            changePlaces();
        } else if (which < 30) {
            soften();
        } else if (which < 55) {
            ask();
        } else if (which < 75) {
            work();
        } else if (which < 88) {
            live();
        } else {
            keep();
        }
    }

    private void grow(int kinds) {
        int a = about(3);
        int b = about(kinds);
        int c = 1 + about(30);
        switch (draw(5)) {
            case 0 -> both("addRoom(" + a + ", " + b + ", " + c + ")",
                    () -> grid.addRoom(a, b, c), () -> plain.addRoom(a, b, c));
            case 1 -> {
                int days = about(32);
                both("addTeacher(" + days + ")", () -> grid.addTeacher(days), () -> plain.addTeacher(days));
            }
            case 2 -> both("addGroup(" + c + ")", () -> grid.addGroup(c), () -> plain.addGroup(c));
            default -> addLesson(about(4), about(4), b, 1 + about(3), about(3));
        }
    }

    private void changePlaces() {
        int lesson = about(small ? 8 : 14);
        int slot = about(30);
        int room = about(3);
        switch (draw(7)) {
            case 0 -> both("remove(" + lesson + ")", () -> grid.remove(lesson), () -> plain.remove(lesson));
            case 1 -> both("lock(" + lesson + ")", () -> grid.lock(lesson), () -> plain.lock(lesson));
            case 2 -> both("unlock(" + lesson + ")", () -> grid.unlock(lesson), () -> plain.unlock(lesson));
            default -> both("place(" + lesson + ", " + slot + ", " + room + ")",
                    () -> grid.place(lesson, slot, room), () -> plain.place(lesson, slot, room));
        }
    }

    private void soften() {
        int teacher = about(small ? 3 : 8);
        int slot = about(30);
        int wish = about(10);
        int piece = about(4);
        if (draw(3) > 0) {
            both("setWish(" + teacher + ", " + slot + ", " + wish + ")",
                    () -> grid.setWish(teacher, slot, wish), () -> plain.setWish(teacher, slot, wish));
        } else {
            both("setWeight(" + piece + ", " + wish + ")",
                    () -> grid.setWeight(piece, wish), () -> plain.setWeight(piece, wish));
        }
    }

    private void ask() {
        int lesson = about(small ? 8 : 16);
        int slot = about(30);
        int room = about(small ? 3 : 8);
        int index = about(60);
        int who = about(4);
        int kind = about(4);
        switch (draw(9)) {
            case 0, 1, 2 -> both("reason(" + lesson + ", " + slot + ", " + room + ")",
                    () -> grid.reason(lesson, slot, room), () -> plain.reason(lesson, slot, room));
            case 3, 4 -> both("reasons(" + lesson + ", " + slot + ")",
                    () -> grid.reasons(lesson, slot), () -> plain.reasons(lesson, slot));
            case 5 -> both("groupAt(" + who + ", " + slot + ")",
                    () -> grid.groupAt(who, slot), () -> plain.groupAt(who, slot));
            case 6 -> both("teacherAt(" + who + ", " + slot + ")",
                    () -> grid.teacherAt(who, slot), () -> plain.teacherAt(who, slot));
            case 7 -> both("possibleAt(" + lesson + ", " + index + ")",
                    () -> grid.possibleAt(lesson, index), () -> plain.possibleAt(lesson, index));
            default -> {
                both("costWith(" + lesson + ", " + slot + ", " + room + ")",
                        () -> grid.costWith(lesson, slot, room), () -> plain.costWith(lesson, slot, room));
                both("lacking(" + kind + ")", () -> grid.lacking(kind), () -> plain.lacking(kind));
                both("lackingBySeats(" + kind + ")",
                        () -> grid.lackingBySeats(kind), () -> plain.lackingBySeats(kind));
            }
        }
    }

    private void work() {
        int steps = small ? about(22) : about(6);
        if (draw(3) == 0) {
            both("improve(" + steps + ")", () -> grid.improve(steps), () -> plain.improve(steps));
        } else if (draw(2) == 0) {
            both("fill()", grid::fill, plain::fill);
        } else {
            both("hardest()", grid::hardest, plain::hardest);
        }
    }

    private void live() {
        int teacher = about(small ? 3 : 8);
        int day = about(5);
        int room = about(small ? 3 : 8);
        switch (draw(12)) {
            case 0 -> both("ill(" + teacher + ", " + day + ")",
                    () -> grid.ill(teacher, day), () -> plain.ill(teacher, day));
            case 1, 2 -> both("close(" + room + ")", () -> grid.close(room), () -> plain.close(room));
            case 3, 4, 5 -> both("open(" + room + ")", () -> grid.open(room), () -> plain.open(room));
            case 6, 7, 8, 9 -> both("passDay()", grid::passDay, plain::passDay);
            default -> both("nextWeek()", grid::nextWeek, plain::nextWeek);
        }
    }

    private void keep() {
        int one = about(3);
        int two = about(3);
        int lesson = about(16);
        switch (draw(6)) {
            case 0 -> both("save()", grid::save, plain::save);
            case 1 -> both("placeIn(" + one + ", " + lesson + ")",
                    () -> grid.placeIn(one, lesson), () -> plain.placeIn(one, lesson));
            case 2 -> both("differences(" + one + ", " + two + ")",
                    () -> grid.differences(one, two), () -> plain.differences(one, two));
            case 3 -> both("restore(" + one + ")", () -> grid.restore(one), () -> plain.restore(one));
            default -> both("merge(" + one + ", " + two + ")", () -> grid.merge(one, two), () -> plain.merge(one, two));
        }
    }

    /** What can be asked without changing anything, so that a state that differs is found where it arose. */
    private void compareAll(boolean much) {
        int before = told.length();
        for (int i = 0; i < 16; i++) {
            int number = i;
            both("placeOf(" + number + ")", () -> grid.placeOf(number), () -> plain.placeOf(number));
            both("isLocked(" + number + ")", () -> grid.isLocked(number), () -> plain.isLocked(number));
        }
        for (int i = 0; i < 8; i++) {
            int number = i;
            both("account(" + number + ")", () -> grid.account(number), () -> plain.account(number));
            both("amount(" + number + ")", () -> grid.amount(number), () -> plain.amount(number));
        }
        both("today()", grid::today, plain::today);
        both("cost()", grid::cost, plain::cost);
        both("costAnew()", grid::costAnew, plain::costAnew);
        both("breaks()", grid::breaks, plain::breaks);
        both("isSound()", grid::isSound, plain::isSound);
        both("placedShare()", grid::placedShare, plain::placedShare);
        if (much) {
            both("meanPossible()", grid::meanPossible, plain::meanPossible);
            for (int i = 0; i < 16; i++) {
                int number = i;
                both("possible(" + number + ")", () -> grid.possible(number), () -> plain.possible(number));
                both("cheapest(" + number + ")", () -> grid.cheapest(number), () -> plain.cheapest(number));
            }
        }
        if (!differs) {
            told.setLength(before);
        }
    }
}
