import java.util.ArrayList;
import java.util.List;
import java.util.NoSuchElementException;

/**
 * The document once more, written as plainly and as slowly as can be: every question is answered from
 * the list of places alone. ModelTest compares Termgrid with it.
 */
final class PlainSchool {
    private static final String LETTERS = "hpokscrtgv";

    record Room(int house, int kind, int seats) { }
    record Lesson(int group, int teacher, int kind, int length, int course) { }

    private final List<Room> rooms = new ArrayList<>();
    private final List<Lesson> lessons = new ArrayList<>();
    private final List<Integer> pupils = new ArrayList<>();
    private final List<boolean[]> daysOff = new ArrayList<>();
    private final List<int[]> wishes = new ArrayList<>();
    private final List<Integer> accounts = new ArrayList<>();
    private final List<Integer[]> versions = new ArrayList<>();
    private final boolean[] closed = new boolean[8];
    private final boolean[] locked = new boolean[16];
    private Integer[] places = new Integer[16];
    private final int[] weights = {1, 1, 1, 1};
    private int today;
    private int weeks;

    // ---------------------------------------------------------------- terms

    private static List<Integer> hours(int slot, int length) {
        List<Integer> hours = new ArrayList<>();
        for (int i = 0; i < length && (slot + i) / 6 == slot / 6; i++) {
            hours.add(slot + i);
        }
        return hours;
    }

    private List<Integer> hoursOf(int lesson, Integer place) {
        return place == null ? List.of() : hours(place / 8, lessons.get(lesson).length);
    }

    /** The letters of r, t, g and v by which one lesson at a place bars another one at a place. */
    private String lettersOf(int other, Integer otherPlace, int lesson, int slot, int room) {
        if (otherPlace == null || other == lesson) {
            return "";
        }
        Lesson mine = lessons.get(lesson);
        Lesson its = lessons.get(other);
        List<Integer> common = new ArrayList<>(hours(slot, mine.length));
        common.retainAll(hoursOf(other, otherPlace));
        String letters = "";
        if (!common.isEmpty()) {
            letters += otherPlace % 8 == room ? "r" : "";
            letters += its.teacher == mine.teacher ? "t" : "";
            letters += its.group == mine.group ? "g" : "";
        }
        int begin = slot % 6;
        int end = Math.min(6, begin + mine.length);
        int otherBegin = otherPlace / 8 % 6;
        int otherEnd = otherBegin + its.length;
        boolean touches = slot / 6 == otherPlace / 48 && (otherEnd == begin || otherBegin == end);
        boolean shared = its.teacher == mine.teacher || its.group == mine.group;
        if (touches && shared && rooms.get(room).house != rooms.get(otherPlace % 8).house) {
            letters += "v";
        }
        return letters;
    }

    private boolean barsByItself(char letter, int lesson, int slot, int room) {
        Lesson it = lessons.get(lesson);
        return switch (letter) {
            case 'h' -> slot % 6 + it.length > 6;
            case 'p' -> slot / 6 < today;
            case 'o' -> daysOff.get(it.teacher)[slot / 6];
            case 'k' -> rooms.get(room).kind != it.kind;
            case 's' -> rooms.get(room).seats < pupils.get(it.group);
            case 'c' -> closed[room];
            default -> false;
        };
    }

    private String letters(int lesson, int slot, int room) {
        String all = "";
        for (int other = 0; other < lessons.size(); other++) {
            all += lettersOf(other, places[other], lesson, slot, room);
        }
        String letters = "";
        for (char letter : LETTERS.toCharArray()) {
            if (all.indexOf(letter) >= 0 || barsByItself(letter, lesson, slot, room)) {
                letters += letter;
            }
        }
        return letters;
    }

    private List<Integer> possiblePlaces(int lesson) {
        List<Integer> found = new ArrayList<>();
        for (int slot = 0; slot < 30; slot++) {
            for (int room = 0; room < rooms.size(); room++) {
                if (letters(lesson, slot, room).isEmpty()) {
                    found.add(8 * slot + room);
                }
            }
        }
        return found;
    }

    private int amountOf(int piece, Integer[] table) {
        int sum = 0;
        switch (piece) {
            case 0 -> {
                for (int group = 0; group < pupils.size(); group++) {
                    for (int day = 0; day < 5; day++) {
                        sum += gaps(group, day, table);
                    }
                }
            }
            case 1 -> {
                for (int i = 0; i < lessons.size(); i++) {
                    sum += isLate(i, table[i]) ? 1 + accounts.get(lessons.get(i).teacher) : 0;
                }
            }
            case 2 -> {
                for (int i = 0; i < lessons.size(); i++) {
                    for (int hour : hoursOf(i, table[i])) {
                        sum += wishes.get(lessons.get(i).teacher)[hour];
                    }
                }
            }
            default -> {
                for (int i = 0; i < lessons.size(); i++) {
                    for (int j = i + 1; j < lessons.size(); j++) {
                        boolean alike = lessons.get(i).group == lessons.get(j).group
                                && lessons.get(i).course == lessons.get(j).course;
                        if (alike && table[i] != null && table[j] != null && table[i] / 48 == table[j] / 48) {
                            sum++;
                        }
                    }
                }
            }
        }
        return sum;
    }

    private int gaps(int group, int day, Integer[] table) {
        List<Integer> had = new ArrayList<>();
        for (int i = 0; i < lessons.size(); i++) {
            if (lessons.get(i).group == group) {
                for (int hour : hoursOf(i, table[i])) {
                    if (hour / 6 == day) {
                        had.add(hour);
                    }
                }
            }
        }
        int gaps = 0;
        for (int hour = 6 * day; hour < 6 * day + 6; hour++) {
            int at = hour;
            boolean ahead = had.stream().anyMatch(h -> h < at);
            boolean behind = had.stream().anyMatch(h -> h > at);
            gaps += ahead && behind && !had.contains(hour) ? 1 : 0;
        }
        return gaps;
    }

    private boolean isLate(int lesson, Integer place) {
        return hoursOf(lesson, place).stream().anyMatch(hour -> hour % 6 == 5);
    }

    private int costOf(Integer[] table) {
        int sum = 0;
        for (int piece = 0; piece < 4; piece++) {
            sum += weights[piece] * amountOf(piece, table);
        }
        return sum;
    }

    private int costWithAt(int lesson, int place) {
        Integer[] table = places.clone();
        table[lesson] = place;
        return costOf(table);
    }

    private Integer cheapestOf(int lesson) {
        Integer best = null;
        for (int place : possiblePlaces(lesson)) {
            if (best == null || costWithAt(lesson, place) < costWithAt(lesson, best)) {
                best = place;
            }
        }
        return best;
    }

    private Integer hardestOf(List<Integer> some) {
        Integer best = null;
        for (int lesson : some) {
            if (best == null || possiblePlaces(lesson).size() < possiblePlaces(best).size()) {
                best = lesson;
            }
        }
        return best;
    }

    private boolean isPast(int lesson) {
        return places[lesson] != null && places[lesson] / 48 < today;
    }

    private boolean isFree(int lesson) {
        return !locked[lesson] && !isPast(lesson);
    }

    private List<Integer> unplaced() {
        List<Integer> found = new ArrayList<>();
        for (int i = 0; i < lessons.size(); i++) {
            if (places[i] == null) {
                found.add(i);
            }
        }
        return found;
    }

    private int repair(List<Integer> hit) {
        for (int lesson : hit) {
            places[lesson] = null;
        }
        List<Integer> untried = new ArrayList<>(hit);
        while (!untried.isEmpty()) {
            Integer lesson = hardestOf(untried);
            untried.remove(lesson);
            places[lesson] = cheapestOf(lesson);
        }
        int left = 0;
        for (int lesson : hit) {
            left += places[lesson] == null ? 1 : 0;
        }
        return left;
    }

    private void setFree(Integer[] goals) {
        List<Integer> free = new ArrayList<>();
        for (int i = 0; i < lessons.size(); i++) {
            if (isFree(i)) {
                free.add(i);
            }
        }
        for (int lesson : free) {
            places[lesson] = null;
        }
        for (int lesson : free) {
            if (goals[lesson] != null && possiblePlaces(lesson).contains(goals[lesson])) {
                places[lesson] = goals[lesson];
            }
        }
    }

    private static boolean same(Integer one, Integer two) {
        return one == null ? two == null : one.equals(two);
    }

    // ---------------------------------------------------------------- what is refused

    private static void index(int number, int count) {
        if (number < 0 || number >= count) {
            throw new IndexOutOfBoundsException();
        }
    }

    private static void range(int number, int least, int most) {
        if (number < least || number > most) {
            throw new IllegalArgumentException();
        }
    }

    private static void state(boolean good) {
        if (!good) {
            throw new IllegalStateException();
        }
    }

    private static void supported(boolean good) {
        if (!good) {
            throw new UnsupportedOperationException();
        }
    }

    private static void element(boolean good) {
        if (!good) {
            throw new NoSuchElementException();
        }
    }

    // ---------------------------------------------------------------- the face

    int addRoom(int house, int kind, int seats) {
        range(house, 0, 2);
        range(kind, 0, 3);
        range(seats, 1, 99);
        state(rooms.size() < 8);
        rooms.add(new Room(house, kind, seats));
        return rooms.size() - 1;
    }

    int addTeacher(int days) {
        range(days, 0, 31);
        state(accounts.size() < 8);
        boolean[] off = new boolean[5];
        for (int day = 0; day < 5; day++) {
            off[day] = (days / (1 << day)) % 2 == 1;
        }
        daysOff.add(off);
        wishes.add(new int[30]);
        accounts.add(0);
        return accounts.size() - 1;
    }

    int addGroup(int count) {
        range(count, 1, 99);
        state(pupils.size() < 8);
        pupils.add(count);
        return pupils.size() - 1;
    }

    int addLesson(int group, int teacher, int kind, int length, int course) {
        index(group, pupils.size());
        index(teacher, accounts.size());
        range(kind, 0, 3);
        range(length, 1, 3);
        range(course, 0, 9);
        state(lessons.size() < 16);
        lessons.add(new Lesson(group, teacher, kind, length, course));
        return lessons.size() - 1;
    }

    int setWish(int teacher, int slot, int wish) {
        index(teacher, accounts.size());
        range(slot, 0, 29);
        range(wish, 0, 9);
        int before = wishes.get(teacher)[slot];
        wishes.get(teacher)[slot] = wish;
        return before;
    }

    int setWeight(int piece, int weight) {
        range(piece, 0, 3);
        range(weight, 0, 9);
        int before = weights[piece];
        weights[piece] = weight;
        return before;
    }

    char reason(int lesson, int slot, int room) {
        index(lesson, lessons.size());
        range(slot, 0, 29);
        range(room, 0, rooms.size() - 1);
        String letters = letters(lesson, slot, room);
        return letters.isEmpty() ? '-' : letters.charAt(0);
    }

    int reasons(int lesson, int slot) {
        index(lesson, lessons.size());
        range(slot, 0, 29);
        List<String> all = new ArrayList<>();
        for (int room = 0; room < rooms.size(); room++) {
            all.add(letters(lesson, slot, room));
            element(!all.get(room).isEmpty());
        }
        for (int size = 0; size <= 10; size++) {
            for (int set = 0; set < 1024; set++) {
                if (Integer.bitCount(set) == size && hitsAll(set, all)) {
                    return set;
                }
            }
        }
        throw new AssertionError();
    }

    private static boolean hitsAll(int set, List<String> all) {
        for (String letters : all) {
            boolean hit = false;
            for (char letter : letters.toCharArray()) {
                hit |= (set & 1 << LETTERS.indexOf(letter)) != 0;
            }
            if (!hit) {
                return false;
            }
        }
        return true;
    }

    int place(int lesson, int slot, int room) {
        index(lesson, lessons.size());
        range(slot, 0, 29);
        range(room, 0, rooms.size() - 1);
        state(isFree(lesson));
        supported(letters(lesson, slot, room).isEmpty());
        places[lesson] = 8 * slot + room;
        return costOf(places);
    }

    int remove(int lesson) {
        index(lesson, lessons.size());
        state(places[lesson] != null && isFree(lesson));
        places[lesson] = null;
        return costOf(places);
    }

    int lock(int lesson) {
        index(lesson, lessons.size());
        state(places[lesson] != null && isFree(lesson));
        locked[lesson] = true;
        return lockedCount();
    }

    int unlock(int lesson) {
        index(lesson, lessons.size());
        state(locked[lesson]);
        locked[lesson] = false;
        return lockedCount();
    }

    private int lockedCount() {
        int count = 0;
        for (boolean one : locked) {
            count += one ? 1 : 0;
        }
        return count;
    }

    boolean isLocked(int lesson) {
        index(lesson, lessons.size());
        return locked[lesson];
    }

    int placeOf(int lesson) {
        index(lesson, lessons.size());
        element(places[lesson] != null);
        return places[lesson];
    }

    int groupAt(int group, int slot) {
        index(group, pupils.size());
        range(slot, 0, 29);
        for (int i = 0; i < lessons.size(); i++) {
            if (lessons.get(i).group == group && hoursOf(i, places[i]).contains(slot)) {
                return i;
            }
        }
        throw new NoSuchElementException();
    }

    int teacherAt(int teacher, int slot) {
        index(teacher, accounts.size());
        range(slot, 0, 29);
        for (int i = 0; i < lessons.size(); i++) {
            if (lessons.get(i).teacher == teacher && hoursOf(i, places[i]).contains(slot)) {
                return i;
            }
        }
        throw new NoSuchElementException();
    }

    int possible(int lesson) {
        index(lesson, lessons.size());
        return possiblePlaces(lesson).size();
    }

    int possibleAt(int lesson, int at) {
        index(lesson, lessons.size());
        List<Integer> found = possiblePlaces(lesson);
        element(at >= 0 && at < found.size());
        return found.get(at);
    }

    int cheapest(int lesson) {
        index(lesson, lessons.size());
        Integer place = cheapestOf(lesson);
        element(place != null);
        return place;
    }

    int costWith(int lesson, int slot, int room) {
        index(lesson, lessons.size());
        range(slot, 0, 29);
        range(room, 0, rooms.size() - 1);
        supported(letters(lesson, slot, room).isEmpty());
        return costWithAt(lesson, 8 * slot + room);
    }

    int hardest() {
        Integer lesson = hardestOf(unplaced());
        element(lesson != null);
        return lesson;
    }

    int fill() {
        List<Integer> givenUp = new ArrayList<>();
        int thrown = 0;
        while (true) {
            List<Integer> waiting = unplaced();
            waiting.removeAll(givenUp);
            Integer lesson = hardestOf(waiting);
            if (lesson == null) {
                return unplaced().size();
            }
            Integer place = cheapestOf(lesson);
            if (place == null && thrown < 10) {
                place = throwOut(lesson);
                thrown += place == null ? 0 : 1;
            }
            if (place == null) {
                givenUp.add(lesson);
            } else {
                places[lesson] = place;
            }
        }
    }

    private Integer throwOut(int lesson) {
        Integer best = null;
        List<Integer> bestOthers = null;
        for (int place = 0; place < 240; place++) {
            List<Integer> others = othersBarring(lesson, place);
            if (others != null && (best == null || others.size() < bestOthers.size())) {
                best = place;
                bestOthers = others;
            }
        }
        if (best != null) {
            for (int other : bestOthers) {
                places[other] = null;
            }
        }
        return best;
    }

    /** The lessons by which a place is barred; null if other letters or locked lessons bar it, too. */
    private List<Integer> othersBarring(int lesson, int place) {
        if (place % 8 >= rooms.size()) {
            return null;
        }
        for (char letter : "hpoksc".toCharArray()) {
            if (barsByItself(letter, lesson, place / 8, place % 8)) {
                return null;
            }
        }
        List<Integer> others = new ArrayList<>();
        for (int other = 0; other < lessons.size(); other++) {
            if (!lettersOf(other, places[other], lesson, place / 8, place % 8).isEmpty()) {
                if (locked[other]) {
                    return null;
                }
                others.add(other);
            }
        }
        return others;
    }

    int improve(int steps) {
        range(steps, 1, 20);
        List<Integer> moved = new ArrayList<>();
        Integer[] best = places.clone();
        for (int step = 0; step < steps; step++) {
            Integer mover = null;
            Integer target = null;
            for (int i = 0; i < lessons.size(); i++) {
                List<Integer> last = moved.subList(Math.max(0, moved.size() - 3), moved.size());
                if (places[i] == null || !isFree(i) || last.contains(i)) {
                    continue;
                }
                for (int place : possiblePlaces(i)) {
                    if (place != places[i] && (mover == null || costWithAt(i, place) < costWithAt(mover, target))) {
                        mover = i;
                        target = place;
                    }
                }
            }
            if (mover == null) {
                break;
            }
            places[mover] = target;
            moved.add(mover);
            if (costOf(places) < costOf(best)) {
                best = places.clone();
            }
        }
        places = best;
        return costOf(places);
    }

    int cost() {
        return costOf(places);
    }

    int costAnew() {
        return costOf(places);
    }

    int amount(int piece) {
        range(piece, 0, 3);
        return amountOf(piece, places);
    }

    int breaks() {
        int count = 0;
        for (int i = 0; i < lessons.size(); i++) {
            count += places[i] != null && !isPast(i) && !letters(i, places[i] / 8, places[i] % 8).isEmpty() ? 1 : 0;
        }
        return count;
    }

    /** By augmenting paths over single hours, whatever the seats are. */
    int lacking(int kind) {
        range(kind, 0, 3);
        List<Integer> wanted = new ArrayList<>();
        for (Lesson lesson : lessons) {
            for (int i = 0; i < lesson.length && lesson.kind == kind; i++) {
                wanted.add(pupils.get(lesson.group));
            }
        }
        int[] takenBy = new int[240];
        java.util.Arrays.fill(takenBy, -1);
        int lack = 0;
        for (int hour = 0; hour < wanted.size(); hour++) {
            lack += gives(hour, kind, wanted, takenBy, new boolean[240]) ? 0 : 1;
        }
        return lack;
    }

    private boolean gives(int hour, int kind, List<Integer> wanted, int[] takenBy, boolean[] seen) {
        for (int at = 0; at < 30 * rooms.size(); at++) {
            Room room = rooms.get(at / 30);
            if (closed[at / 30] || room.kind != kind || room.seats < wanted.get(hour) || seen[at]) {
                continue;
            }
            seen[at] = true;
            if (takenBy[at] < 0 || gives(takenBy[at], kind, wanted, takenBy, seen)) {
                takenBy[at] = hour;
                return true;
            }
        }
        return false;
    }

    int lackingBySeats(int kind) {
        return lacking(kind);
    }

    int ill(int teacher, int day) {
        index(teacher, accounts.size());
        range(day, today, 4);
        state(!daysOff.get(teacher)[day]);
        List<Integer> hit = new ArrayList<>();
        for (int i = 0; i < lessons.size(); i++) {
            if (lessons.get(i).teacher == teacher && places[i] != null && places[i] / 48 == day) {
                supported(!locked[i]);
                hit.add(i);
            }
        }
        daysOff.get(teacher)[day] = true;
        return repair(hit);
    }

    int close(int room) {
        index(room, rooms.size());
        state(!closed[room]);
        List<Integer> hit = new ArrayList<>();
        for (int i = 0; i < lessons.size(); i++) {
            if (places[i] != null && places[i] % 8 == room) {
                supported(!locked[i]);
                if (!isPast(i)) {
                    hit.add(i);
                }
            }
        }
        closed[room] = true;
        return repair(hit);
    }

    int open(int room) {
        index(room, rooms.size());
        state(closed[room]);
        closed[room] = false;
        int count = rooms.size();
        for (boolean one : closed) {
            count -= one ? 1 : 0;
        }
        return count;
    }

    int passDay() {
        state(today != 4);
        return ++today;
    }

    int nextWeek() {
        state(today == 4);
        for (int i = 0; i < lessons.size(); i++) {
            if (isLate(i, places[i])) {
                int teacher = lessons.get(i).teacher;
                accounts.set(teacher, Math.min(9, accounts.get(teacher) + 1));
            }
        }
        today = 0;
        List<Integer> hit = new ArrayList<>();
        for (int i = 0; i < lessons.size(); i++) {
            if (places[i] != null && !letters(i, places[i] / 8, places[i] % 8).isEmpty()) {
                hit.add(i);
            }
        }
        repair(hit);
        return ++weeks;
    }

    int today() {
        return today;
    }

    int account(int teacher) {
        index(teacher, accounts.size());
        return accounts.get(teacher);
    }

    int save() {
        state(versions.size() < 6);
        versions.add(places.clone());
        return versions.size() - 1;
    }

    private Integer[] version(int number) {
        element(number >= 0 && number < versions.size());
        return versions.get(number);
    }

    int placeIn(int version, int lesson) {
        Integer[] saved = version(version);
        index(lesson, lessons.size());
        element(saved[lesson] != null);
        return saved[lesson];
    }

    int differences(int version, int other) {
        Integer[] one = version(version);
        Integer[] two = version(other);
        int count = 0;
        for (int i = 0; i < 16; i++) {
            count += same(one[i], two[i]) ? 0 : 1;
        }
        return count;
    }

    int restore(int version) {
        Integer[] saved = version(version);
        setFree(saved);
        int count = 0;
        for (int i = 0; i < lessons.size(); i++) {
            count += same(places[i], saved[i]) ? 0 : 1;
        }
        return count;
    }

    int merge(int base, int version) {
        Integer[] from = version(base);
        Integer[] saved = version(version);
        Integer[] goals = places.clone();
        int conflicts = 0;
        for (int i = 0; i < lessons.size(); i++) {
            boolean byTable = !same(places[i], from[i]);
            boolean byVersion = !same(saved[i], from[i]);
            if (byVersion && !byTable) {
                goals[i] = saved[i];
            }
            conflicts += byVersion && byTable && !same(places[i], saved[i]) ? 1 : 0;
        }
        setFree(goals);
        return conflicts;
    }

    float placedShare() {
        if (lessons.isEmpty()) {
            throw new ArithmeticException();
        }
        return (float) (lessons.size() - unplaced().size()) / (float) lessons.size();
    }

    double meanPossible() {
        if (lessons.isEmpty()) {
            throw new ArithmeticException();
        }
        int sum = 0;
        for (int i = 0; i < lessons.size(); i++) {
            sum += possiblePlaces(i).size();
        }
        return (double) sum / (double) lessons.size();
    }

    boolean isSound() {
        return breaks() == 0;
    }
}
