import java.util.List;

/**
 * Whatever a school that has come about by some calls answers, as one text: if a call changes nothing, the
 * pictures with it and without it are the same. What is asked goes to objects that are made anew by the same
 * calls, so that none of them is used for more than 512 calls.
 */
final class Picture {
    private static final int MOST_CALLS = 512;
    private static final String NO_SUCH_INDEX = "throws.IndexOutOfBoundsException";
    private static final String NO_SUCH_ARGUMENT = "throws.IllegalArgumentException";

    private final List<Line> history;
    private final StringBuilder text = new StringBuilder();
    private Termgrid x;
    private int calls;

    private Picture(List<Line> history) {
        this.history = history;
    }

    static String of(List<Line> history) {
        Picture picture = new Picture(history);
        picture.begin();
        picture.askForLessons();
        picture.askForTable();
        picture.askForVersions();
        picture.askForSchoolByChanges();
        picture.askForDaysOffByChanges();
        picture.askForWeeksByChanges();
        picture.askForTablesByChanges();
        return picture.text.toString();
    }

    /** The first line in which two pictures differ, as one reads in the second one. */
    static String difference(String one, String two) {
        String[] before = one.split("\n");
        String[] after = two.split("\n");
        for (int i = 0; i < before.length && i < after.length; i++) {
            if (!before[i].equals(after[i])) {
                return after[i] + ", not " + before[i];
            }
        }
        return before.length == after.length ? "nothing" : "the number of what there is";
    }

    private void begin() {
        x = new Termgrid();
        for (Line line : history) {
            line.answerOn(x);
        }
        calls = history.size();
    }

    private interface Question {
        Object askedOf(Termgrid school);
    }

    private String ask(String call, Question question) {
        if (calls == MOST_CALLS) {
            begin();
        }
        calls++;
        String answer;
        try {
            answer = String.valueOf(question.askedOf(x));
        } catch (RuntimeException e) {
            answer = "throws." + e.getClass().getSimpleName();
        }
        text.append(call).append(" = ").append(answer).append('\n');
        return answer;
    }

    private void askForLessons() {
        for (int i = 0; i < 16; i++) {
            int lesson = i;
            if (ask("isLocked " + i, school -> school.isLocked(lesson)).equals(NO_SUCH_INDEX)) {
                return;
            }
            ask("placeOf " + i, school -> school.placeOf(lesson));
            ask("possible " + i, school -> school.possible(lesson));
            ask("cheapest " + i, school -> school.cheapest(lesson));
            for (int slot = 0; slot < 30; slot++) {
                int at = slot;
                ask("reasons " + i + " " + at, school -> school.reasons(lesson, at));
                askForPlaces(lesson, at);
            }
        }
    }

    private void askForPlaces(int lesson, int slot) {
        for (int i = 0; i < 8; i++) {
            int room = i;
            String place = lesson + " " + slot + " " + room;
            if (ask("reason " + place, school -> school.reason(lesson, slot, room)).equals(NO_SUCH_ARGUMENT)) {
                return;
            }
            ask("costWith " + place, school -> school.costWith(lesson, slot, room));
        }
    }

    private void askForTable() {
        ask("today", Termgrid::today);
        ask("cost", Termgrid::cost);
        ask("costAnew", Termgrid::costAnew);
        ask("breaks", Termgrid::breaks);
        ask("hardest", Termgrid::hardest);
        ask("placedShare", Termgrid::placedShare);
        ask("meanPossible", Termgrid::meanPossible);
        ask("isSound", Termgrid::isSound);
        for (int i = 0; i < 8; i++) {
            int number = i;
            ask("account " + i, school -> school.account(number));
            ask("amount " + i, school -> school.amount(number));
            ask("lacking " + i, school -> school.lacking(number));
            ask("lackingBySeats " + i, school -> school.lackingBySeats(number));
        }
    }

    private void askForVersions() {
        for (int i = 0; i < 6; i++) {
            int version = i;
            for (int j = 0; j < 16; j++) {
                int lesson = j;
                ask("placeIn " + i + " " + j, school -> school.placeIn(version, lesson));
            }
            for (int j = 0; j < 6; j++) {
                int other = j;
                ask("differences " + i + " " + j, school -> school.differences(version, other));
            }
        }
    }

    private void askForSchoolByChanges() {
        begin();
        for (int i = 0; i < 8; i++) {
            int number = i;
            ask("setWeight " + i, school -> school.setWeight(number, 0));
            ask("open " + i, school -> school.open(number));
        }
        ask("addRoom", school -> school.addRoom(0, 0, 1));
        ask("addTeacher", school -> school.addTeacher(0));
        ask("addGroup", school -> school.addGroup(1));
        ask("addLesson", school -> school.addLesson(0, 0, 0, 1, 0));
        ask("save", Termgrid::save);
        for (int i = 0; i < 240; i++) {
            int teacher = i / 30;
            int slot = i % 30;
            ask("setWish " + teacher + " " + slot, school -> school.setWish(teacher, slot, 0));
        }
    }

    private void askForDaysOffByChanges() {
        begin();
        for (int i = 0; i < 16; i++) {
            int lesson = i;
            ask("unlock " + i, school -> school.unlock(lesson));
        }
        for (int i = 0; i < 40; i++) {
            int teacher = i / 5;
            int day = i % 5;
            ask("ill " + teacher + " " + day, school -> school.ill(teacher, day));
        }
    }

    private void askForWeeksByChanges() {
        begin();
        for (int day = 0; day < 5; day++) {
            ask("passDay", Termgrid::passDay);
        }
        ask("nextWeek", Termgrid::nextWeek);
        ask("cost", Termgrid::cost);
    }

    private void askForTablesByChanges() {
        begin();
        ask("fill", Termgrid::fill);
        ask("improve", school -> school.improve(2));
        ask("cost", Termgrid::cost);
        for (int i = 0; i < 16; i++) {
            int lesson = i;
            ask("placeOf " + i, school -> school.placeOf(lesson));
        }
    }
}
