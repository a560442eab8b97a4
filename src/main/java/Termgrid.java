import java.util.ArrayList;
import java.util.Arrays;
import java.util.NoSuchElementException;

/**
 * A timetable maker for a school of several houses, as ../shared/DOC.md describes it.
 *
 * Slots, days, letters and lessons are often held as sets: the bit n of an int stands for the number n.
 * No call makes arrays: what a call needs to write on is made with the object and used again.
 */
public final class Termgrid {
    private static final int DAYS = 5;
    private static final int HOURS = 6;
    private static final int SLOTS = 30;
    private static final int HOUSES = 3;
    private static final int KINDS = 4;
    private static final int PIECES = 4;
    private static final int ROOMS_A_SLOT = 8;

    private static final int MOST_ROOMS = 8;
    private static final int MOST_TEACHERS = 8;
    private static final int MOST_GROUPS = 8;
    private static final int MOST_LESSONS = 16;
    private static final int MOST_VERSIONS = 6;
    private static final int MOST_SEATS = 99;
    private static final int MOST_PUPILS = 99;
    private static final int MOST_LENGTH = 3;
    private static final int MOST_COURSE = 9;
    private static final int MOST_WISH = 9;
    private static final int MOST_WEIGHT = 9;
    private static final int MOST_ACCOUNT = 9;
    private static final int MOST_STEPS = 20;
    private static final int MOST_THROWS = 10;
    private static final int STEPS_OF_REST = 3;

    /** The place of a lesson that is not placed. */
    private static final int NOWHERE = -1;

    private static final int ALL_DAYS = (1 << DAYS) - 1;
    private static final int ALL_SLOTS = (1 << SLOTS) - 1;
    private static final int DAY_ZERO = (1 << HOURS) - 1;
    private static final int FIRST_HOURS = 1 | 1 << 6 | 1 << 12 | 1 << 18 | 1 << 24;
    private static final int LAST_HOURS = FIRST_HOURS << HOURS - 1;

    private static final int GAPS = 0;
    private static final int LATE_HOURS = 1;
    private static final int WISHES = 2;
    private static final int CROWDS = 3;

    private static final String LETTERS = "hpokscrtgv";
    private static final int ALL_LETTERS = (1 << 10) - 1;
    private static final int DAY_TOO_SHORT = 0;
    private static final int DAY_PAST = 1;
    private static final int DAY_OFF = 2;
    private static final int OTHER_KIND = 3;
    private static final int TOO_FEW_SEATS = 4;
    private static final int CLOSED = 5;
    private static final int ROOM_TAKEN = 6;
    private static final int TEACHER_TAKEN = 7;
    private static final int GROUP_TAKEN = 8;
    private static final int WAY_BETWEEN_HOUSES = 9;

    private final ArrayList<Teacher> teachers = new ArrayList<>();
    private final Table table = new Table();
    private final Filler filler = new Filler();
    private final Improver improver = new Improver();
    private final Bounds bounds = new Bounds();
    private final int[][] versions = new int[MOST_VERSIONS][MOST_LESSONS];
    private final int[] goals = new int[MOST_LESSONS];
    private final int[] roomLetters = new int[MOST_ROOMS];
    private int versionCount;
    private int weeks;

    public Termgrid() {
    }

    // ---------------------------------------------------------------- the school

    public int addRoom(int house, int kind, int seats) throws IllegalArgumentException, IllegalStateException {
        if (isOutside(house, 0, HOUSES - 1) || isOutside(kind, 0, KINDS - 1) || isOutside(seats, 1, MOST_SEATS)) {
            throw new IllegalArgumentException("house, kind or seats out of range");
        }
        int number = table.rooms.size();
        if (number >= MOST_ROOMS) {
            throw new IllegalStateException("there are 8 rooms");
        }
        table.rooms.add(new Room(number, house, kind, seats));
        return number;
    }

    public int addTeacher(int daysOff) throws IllegalArgumentException, IllegalStateException {
        if (isOutside(daysOff, 0, ALL_DAYS)) {
            throw new IllegalArgumentException("days off out of range");
        }
        int number = teachers.size();
        if (number >= MOST_TEACHERS) {
            throw new IllegalStateException("there are 8 teachers");
        }
        teachers.add(new Teacher(slotsOfDays(daysOff)));
        return number;
    }

    public int addGroup(int pupils) throws IllegalArgumentException, IllegalStateException {
        if (isOutside(pupils, 1, MOST_PUPILS)) {
            throw new IllegalArgumentException("pupils out of range");
        }
        int number = table.groups.size();
        if (number >= MOST_GROUPS) {
            throw new IllegalStateException("there are 8 groups");
        }
        table.groups.add(new Group(pupils));
        return number;
    }

    public int addLesson(int group, int teacher, int kind, int length, int course)
            throws IndexOutOfBoundsException, IllegalArgumentException, IllegalStateException {
        Group pupils = groupNumbered(group);
        Teacher master = teacherNumbered(teacher);
        if (isOutside(kind, 0, KINDS - 1) || isOutside(length, 1, MOST_LENGTH) || isOutside(course, 0, MOST_COURSE)) {
            throw new IllegalArgumentException("kind, length or course out of range");
        }
        int number = table.lessons.size();
        if (number >= MOST_LESSONS) {
            throw new IllegalStateException("there are 16 lessons");
        }
        table.lessons.add(new Lesson(number, pupils, master, kind, length, course));
        return number;
    }

    public int setWish(int teacher, int slot, int wish) throws IndexOutOfBoundsException, IllegalArgumentException {
        Teacher master = teacherNumbered(teacher);
        requireSlot(slot);
        if (isOutside(wish, 0, MOST_WISH)) {
            throw new IllegalArgumentException("wish out of range");
        }
        return table.changeWish(master, slot, wish);
    }

    public int setWeight(int piece, int weight) throws IllegalArgumentException {
        requirePiece(piece);
        if (isOutside(weight, 0, MOST_WEIGHT)) {
            throw new IllegalArgumentException("weight out of range");
        }
        return table.changeWeight(piece, weight);
    }

    // ---------------------------------------------------------------- bars

    public char reason(int lesson, int slot, int room) throws IndexOutOfBoundsException, IllegalArgumentException {
        Lesson it = lessonNumbered(lesson);
        Room where = roomOfPlace(slot, room);
        table.lookAround(it);
        int letters = it.lettersAt(slot, where);
        for (int letter = 0; letter < LETTERS.length(); letter++) {
            if (has(letters, letter)) {
                return LETTERS.charAt(letter);
            }
        }
        return '-';
    }

    public int reasons(int lesson, int slot)
            throws IndexOutOfBoundsException, IllegalArgumentException, NoSuchElementException {
        Lesson it = lessonNumbered(lesson);
        requireSlot(slot);
        table.lookAround(it);
        Arrays.fill(roomLetters, 0);
        for (int room = 0; room < table.rooms.size() && room < roomLetters.length; room++) {
            roomLetters[room] = it.lettersAt(slot, table.rooms.get(room));
            if (roomLetters[room] == 0) {
                throw new NoSuchElementException("a place at this slot is possible");
            }
        }
        return leastReasons();
    }

    /** The least set of letters that has one of the letters of each room. */
    private int leastReasons() {
        if (table.rooms.isEmpty()) {
            return 0;
        }
        int least = ALL_LETTERS;
        for (int letters = 1; letters < ALL_LETTERS; letters++) {
            if (Integer.bitCount(letters) < Integer.bitCount(least) && barEachRoom(letters)) {
                least = letters;
            }
        }
        return least;
    }

    private boolean barEachRoom(int letters) {
        for (int room = 0; room < table.rooms.size() && room < roomLetters.length; room++) {
            if ((roomLetters[room] & letters) == 0) {
                return false;
            }
        }
        return true;
    }

    // ---------------------------------------------------------------- placing by hand

    public int place(int lesson, int slot, int room)
            throws IndexOutOfBoundsException, IllegalArgumentException, IllegalStateException,
            UnsupportedOperationException {
        Lesson it = lessonNumbered(lesson);
        Room where = roomOfPlace(slot, room);
        requireFree(it);
        requirePossible(it, slot, where);
        table.put(it, slot, where);
        return table.costKept();
    }

    public int remove(int lesson) throws IndexOutOfBoundsException, IllegalStateException {
        Lesson it = lessonNumbered(lesson);
        requirePlaced(it);
        requireFree(it);
        table.take(it);
        return table.costKept();
    }

    public int lock(int lesson) throws IndexOutOfBoundsException, IllegalStateException {
        Lesson it = lessonNumbered(lesson);
        requirePlaced(it);
        requireFree(it);
        it.locked = true;
        return lockedLessons();
    }

    public int unlock(int lesson) throws IndexOutOfBoundsException, IllegalStateException {
        Lesson it = lessonNumbered(lesson);
        if (!it.locked) {
            throw new IllegalStateException("the lesson is not locked");
        }
        it.locked = false;
        return lockedLessons();
    }

    private int lockedLessons() {
        int count = 0;
        for (int i = 0; i < table.lessons.size(); i++) {
            if (table.lessons.get(i).locked) {
                count++;
            }
        }
        return count;
    }

    public boolean isLocked(int lesson) throws IndexOutOfBoundsException {
        return lessonNumbered(lesson).locked;
    }

    // ---------------------------------------------------------------- looking at the table

    public int placeOf(int lesson) throws IndexOutOfBoundsException, NoSuchElementException {
        int place = lessonNumbered(lesson).placeNow();
        if (place == NOWHERE) {
            throw new NoSuchElementException("the lesson is not placed");
        }
        return place;
    }

    public int groupAt(int group, int slot)
            throws IndexOutOfBoundsException, IllegalArgumentException, NoSuchElementException {
        Group pupils = groupNumbered(group);
        requireSlot(slot);
        for (int i = 0; i < table.lessons.size(); i++) {
            Lesson lesson = table.lessons.get(i);
            if (lesson.group == pupils && has(lesson.hoursNow(), slot)) {
                return lesson.number;
            }
        }
        throw new NoSuchElementException("the group has no lesson then");
    }

    public int teacherAt(int teacher, int slot)
            throws IndexOutOfBoundsException, IllegalArgumentException, NoSuchElementException {
        Teacher master = teacherNumbered(teacher);
        requireSlot(slot);
        for (int i = 0; i < table.lessons.size(); i++) {
            Lesson lesson = table.lessons.get(i);
            if (lesson.teacher == master && has(lesson.hoursNow(), slot)) {
                return lesson.number;
            }
        }
        throw new NoSuchElementException("the teacher has no lesson then");
    }

    public int possible(int lesson) throws IndexOutOfBoundsException {
        return table.countPossible(lessonNumbered(lesson));
    }

    public int possibleAt(int lesson, int index) throws IndexOutOfBoundsException, NoSuchElementException {
        int place = table.findPossible(lessonNumbered(lesson), index);
        if (place == NOWHERE) {
            throw new NoSuchElementException("there is no such place");
        }
        return place;
    }

    public int cheapest(int lesson) throws IndexOutOfBoundsException, NoSuchElementException {
        int place = table.findCheapest(lessonNumbered(lesson));
        if (place == NOWHERE) {
            throw new NoSuchElementException("no place is possible");
        }
        return place;
    }

    public int costWith(int lesson, int slot, int room)
            throws IndexOutOfBoundsException, IllegalArgumentException, UnsupportedOperationException {
        Lesson it = lessonNumbered(lesson);
        Room where = roomOfPlace(slot, room);
        requirePossible(it, slot, where);
        return table.costFrom(it, slot);
    }

    public int hardest() throws NoSuchElementException {
        Lesson lesson = table.findHardest(table.unplaced());
        if (lesson == null) {
            throw new NoSuchElementException("all lessons are placed");
        }
        return lesson.number;
    }

    // ---------------------------------------------------------------- filling and improving

    public int fill() {
        filler.fillUp(table);
        return Integer.bitCount(table.unplaced());
    }

    public int improve(int steps) throws IllegalArgumentException {
        if (isOutside(steps, 1, MOST_STEPS)) {
            throw new IllegalArgumentException("number of steps out of range");
        }
        improver.improveTable(table, steps);
        return table.costKept();
    }

    public int cost() {
        return table.costKept();
    }

    public int costAnew() {
        int sum = 0;
        for (int piece = 0; piece < table.weights.length; piece++) {
            sum += table.weights[piece] * table.amountAnew(piece);
        }
        return sum;
    }

    public int amount(int piece) throws IllegalArgumentException {
        requirePiece(piece);
        return at(table.amounts, piece);
    }

    // ---------------------------------------------------------------- bounds

    public int breaks() {
        return table.countBreaks();
    }

    public int lacking(int kind) throws IllegalArgumentException {
        requireKind(kind);
        return bounds.lackByGiving(table, kind);
    }

    public int lackingBySeats(int kind) throws IllegalArgumentException {
        requireKind(kind);
        return bounds.lackByNumbers(table, kind);
    }

    // ---------------------------------------------------------------- repairs and days

    public int ill(int teacher, int day)
            throws IndexOutOfBoundsException, IllegalArgumentException, IllegalStateException,
            UnsupportedOperationException {
        Teacher master = teacherNumbered(teacher);
        if (isOutside(day, table.today, DAYS - 1)) {
            throw new IllegalArgumentException("no such day, or it is past");
        }
        if ((master.slotsOff & slotsOfDay(day)) != 0) {
            throw new IllegalStateException("it is a day off already");
        }
        int hit = 0;
        for (int i = 0; i < table.lessons.size(); i++) {
            Lesson lesson = table.lessons.get(i);
            if (lesson.teacher == master && lesson.isOn(day)) {
                if (lesson.locked) {
                    throw new UnsupportedOperationException("a locked lesson is placed on this day");
                }
                hit |= 1 << i;
            }
        }
        master.slotsOff |= slotsOfDay(day);
        return table.repair(hit);
    }

    public int close(int room) throws IndexOutOfBoundsException, IllegalStateException, UnsupportedOperationException {
        Room it = roomNumbered(room);
        if (!it.isOpen) {
            throw new IllegalStateException("the room is closed");
        }
        int hit = 0;
        for (int i = 0; i < table.lessons.size(); i++) {
            Lesson lesson = table.lessons.get(i);
            if (lesson.room == it) {
                if (lesson.locked) {
                    throw new UnsupportedOperationException("a locked lesson is placed in the room");
                }
                hit |= table.isPast(lesson) ? 0 : 1 << i;
            }
        }
        it.isOpen = false;
        return table.repair(hit);
    }

    public int open(int room) throws IndexOutOfBoundsException, IllegalStateException {
        Room it = roomNumbered(room);
        if (it.isOpen) {
            throw new IllegalStateException("the room is open");
        }
        it.isOpen = true;
        int count = 0;
        for (int i = 0; i < table.rooms.size(); i++) {
            if (table.rooms.get(i).isOpen) {
                count++;
            }
        }
        return count;
    }

    public int passDay() throws IllegalStateException {
        if (table.today >= DAYS - 1) {
            throw new IllegalStateException("today is the last day");
        }
        table.today++;
        return table.today;
    }

    public int nextWeek() throws IllegalStateException {
        if (table.today != DAYS - 1) {
            throw new IllegalStateException("today is not the last day");
        }
        table.bookLateHours();
        table.today = 0;
        table.repair(table.broken());
        weeks++;
        return weeks;
    }

    public int today() {
        return table.today;
    }

    public int account(int teacher) throws IndexOutOfBoundsException {
        return teacherNumbered(teacher).account;
    }

    // ---------------------------------------------------------------- versions

    public int save() throws IllegalStateException {
        if (versionCount >= versions.length) {
            throw new IllegalStateException("there are 6 versions");
        }
        table.copyPlaces(versions[versionCount]);
        versionCount++;
        return versionCount - 1;
    }

    public int placeIn(int version, int lesson) throws NoSuchElementException, IndexOutOfBoundsException {
        int[] saved = versionNumbered(version);
        int place = at(saved, lessonNumbered(lesson).number);
        if (place == NOWHERE) {
            throw new NoSuchElementException("the lesson has no place in the version");
        }
        return place;
    }

    public int differences(int version, int other) throws NoSuchElementException {
        int[] one = versionNumbered(version);
        int[] two = versionNumbered(other);
        int count = 0;
        for (int i = 0; i < MOST_LESSONS; i++) {
            if (at(one, i) != at(two, i)) {
                count++;
            }
        }
        return count;
    }

    public int restore(int version) throws NoSuchElementException {
        int[] saved = versionNumbered(version);
        table.setFreeLessons(saved);
        int count = 0;
        for (int i = 0; i < table.lessons.size(); i++) {
            if (table.lessons.get(i).placeNow() != at(saved, i)) {
                count++;
            }
        }
        return count;
    }

    public int merge(int base, int version) throws NoSuchElementException {
        int[] before = versionNumbered(base);
        int[] saved = versionNumbered(version);
        table.copyPlaces(goals);
        int conflicts = 0;
        for (int i = 0; i < table.lessons.size() && i < goals.length; i++) {
            boolean versionChanges = at(saved, i) != at(before, i);
            boolean tableChanges = goals[i] != at(before, i);
            if (versionChanges && !tableChanges) {
                goals[i] = at(saved, i);
            } else if (versionChanges && goals[i] != at(saved, i)) {
                conflicts++;
            }
        }
        table.setFreeLessons(goals);
        return conflicts;
    }

    // ---------------------------------------------------------------- figures

    public float placedShare() throws ArithmeticException {
        int all = table.lessons.size();
        if (all == 0) {
            throw new ArithmeticException("there are no lessons");
        }
        int placed = all - Integer.bitCount(table.unplaced());
        return (float) placed / (float) all;
    }

    public double meanPossible() throws ArithmeticException {
        int all = table.lessons.size();
        if (all == 0) {
            throw new ArithmeticException("there are no lessons");
        }
        int sum = 0;
        for (int i = 0; i < all; i++) {
            sum += table.countPossible(table.lessons.get(i));
        }
        return (double) sum / (double) all;
    }

    public boolean isSound() {
        if (cost() != costAnew() || breaks() != 0) {
            return false;
        }
        for (int kind = 0; kind < KINDS; kind++) {
            if (bounds.lackByGiving(table, kind) != bounds.lackByNumbers(table, kind)) {
                return false;
            }
        }
        return true;
    }

    // ---------------------------------------------------------------- what the face refuses

    private Room roomNumbered(int number) {
        if (number < 0 || number >= table.rooms.size()) {
            throw new IndexOutOfBoundsException("no such room");
        }
        return table.rooms.get(number);
    }

    private Teacher teacherNumbered(int number) {
        if (number < 0 || number >= teachers.size()) {
            throw new IndexOutOfBoundsException("no such teacher");
        }
        return teachers.get(number);
    }

    private Group groupNumbered(int number) {
        if (number < 0 || number >= table.groups.size()) {
            throw new IndexOutOfBoundsException("no such group");
        }
        return table.groups.get(number);
    }

    private Lesson lessonNumbered(int number) {
        if (number < 0 || number >= table.lessons.size()) {
            throw new IndexOutOfBoundsException("no such lesson");
        }
        return table.lessons.get(number);
    }

    private int[] versionNumbered(int number) {
        if (number < 0 || number >= versionCount || number >= versions.length) {
            throw new NoSuchElementException("no such version");
        }
        return versions[number];
    }

    private Room roomOfPlace(int slot, int number) {
        requireSlot(slot);
        if (number < 0 || number >= table.rooms.size()) {
            throw new IllegalArgumentException("no such room");
        }
        return table.rooms.get(number);
    }

    private static void requireSlot(int slot) {
        if (isOutside(slot, 0, SLOTS - 1)) {
            throw new IllegalArgumentException("no such slot");
        }
    }

    private static void requirePiece(int piece) {
        if (isOutside(piece, 0, PIECES - 1)) {
            throw new IllegalArgumentException("no such piece");
        }
    }

    private static void requireKind(int kind) {
        if (isOutside(kind, 0, KINDS - 1)) {
            throw new IllegalArgumentException("no such kind");
        }
    }

    private static void requirePlaced(Lesson lesson) {
        if (lesson.room == null) {
            throw new IllegalStateException("the lesson is not placed");
        }
    }

    private void requireFree(Lesson lesson) {
        if (!table.isFree(lesson)) {
            throw new IllegalStateException("the lesson is locked or past");
        }
    }

    private void requirePossible(Lesson lesson, int slot, Room room) {
        table.lookAround(lesson);
        if (lesson.lettersAt(slot, room) != 0) {
            throw new UnsupportedOperationException("the place is barred");
        }
    }

    // ---------------------------------------------------------------- numbers, rows and sets

    private static boolean isOutside(int number, int least, int most) {
        return number < least || number > most;
    }

    private static boolean has(int set, int number) {
        return (set >>> number & 1) != 0;
    }

    /** What stands in a row at an index, or 0 where the row has no such index. */
    private static int at(int[] row, int index) {
        return index >= 0 && index < row.length ? row[index] : 0;
    }

    /** Adds slots to the set that stands in a row at an index. */
    private static void addSlots(int[] row, int index, int slots) {
        if (index >= 0 && index < row.length) {
            row[index] |= slots;
        }
    }

    private static int slotsOfDay(int day) {
        return DAY_ZERO << HOURS * day;
    }

    private static int slotsOfDays(int days) {
        int slots = 0;
        for (int day = 0; day < DAYS; day++) {
            slots |= has(days, day) ? slotsOfDay(day) : 0;
        }
        return slots;
    }

    /** The slots from which on one of so many hours, on the same day, is one of some hours. */
    private static int slotsThatMeet(int hours, int length) {
        int slots = 0;
        int ahead = hours;
        for (int hour = 0; hour < length; hour++) {
            slots |= ahead;
            ahead = (ahead & ~FIRST_HOURS) >>> 1;
        }
        return slots;
    }

    /** The hours between the first and the last one of some hours of one day that are not of them. */
    private static int gapsAmong(int hours) {
        int fromFirst = hours | hours << 1;
        fromFirst |= fromFirst << 2;
        fromFirst |= fromFirst << 4;
        int toLast = hours | hours >>> 1;
        toLast |= toLast >>> 2;
        toLast |= toLast >>> 4;
        return fromFirst & toLast & ~hours;
    }

    // ---------------------------------------------------------------- what a school has

    private static final class Room {
        final int number;
        final int house;
        final int kind;
        final int seats;
        boolean isOpen = true;

        Room(int number, int house, int kind, int seats) {
            this.number = number;
            this.house = house;
            this.kind = kind;
            this.seats = seats;
        }
    }

    private static final class Teacher {
        final int[] wishes = new int[SLOTS];
        int slotsOff;
        int account;

        Teacher(int slotsOff) {
            this.slotsOff = slotsOff;
        }
    }

    private static final class Group {
        final int pupils;

        Group(int pupils) {
            this.pupils = pupils;
        }
    }

    /** A lesson, where it is placed, and what it has seen of the others when it last looked around. */
    private static final class Lesson {
        final int number;
        final Group group;
        final Teacher teacher;
        final int kind;
        final int length;
        final int course;

        /** Null as long as the lesson is not placed; the slot is NOWHERE then. */
        Room room;
        int slot = NOWHERE;
        boolean locked;

        /** The slots from which on the lesson would not end on the same day. */
        private final int tooLateSlots;
        private final int[] possibleSlots = new int[MOST_ROOMS];

        // What it has seen of the others: the slots at which they bar it, and what its cost depends on.
        private int pastSlots;
        private int teacherSlots;
        private int groupSlots;
        private final int[] roomSlots = new int[MOST_ROOMS];
        private final int[] waySlots = new int[HOUSES];
        private int groupHours;
        private final int[] mates = new int[DAYS];

        Lesson(int number, Group group, Teacher teacher, int kind, int length, int course) {
            this.number = number;
            this.group = group;
            this.teacher = teacher;
            this.kind = kind;
            this.length = length;
            this.course = course;
            tooLateSlots = slotsThatMeet(LAST_HOURS, length - 1);
        }

        int placeNow() {
            return room == null ? NOWHERE : ROOMS_A_SLOT * slot + room.number;
        }

        boolean isOn(int day) {
            return room != null && slot / HOURS == day;
        }

        int hoursNow() {
            return room == null ? 0 : hoursFrom(slot);
        }

        /** The hours from a slot on, those of its day alone. */
        int hoursFrom(int from) {
            return (1 << length) - 1 << from & DAY_ZERO << from - from % HOURS;
        }

        void forgetOthers(int today) {
            pastSlots = (1 << HOURS * today) - 1;
            teacherSlots = 0;
            groupSlots = 0;
            Arrays.fill(roomSlots, 0);
            Arrays.fill(waySlots, 0);
            groupHours = 0;
            Arrays.fill(mates, 0);
        }

        void see(Lesson other) {
            Room where = other.room;
            if (other == this || where == null) {
                return;
            }
            int hours = other.hoursFrom(other.slot);
            int meeting = slotsThatMeet(hours, length);
            addSlots(roomSlots, where.number, meeting);
            if (other.teacher == teacher) {
                teacherSlots |= meeting;
            }
            if (other.group == group) {
                groupSlots |= meeting;
                groupHours |= hours;
                countMate(other);
            }
            if (other.teacher == teacher || other.group == group) {
                addWay(where.house, slotsTouching(other));
            }
        }

        private void countMate(Lesson other) {
            int day = other.slot / HOURS;
            if (other.course == course && day >= 0 && day < mates.length) {
                mates[day]++;
            }
        }

        /** The slots from which on the lesson begins where another one ends, or ends where that one begins. */
        private int slotsTouching(Lesson other) {
            int hour = other.slot % HOURS;
            int behind = hour + other.length < HOURS ? 1 << other.slot + other.length : 0;
            int ahead = hour >= length ? 1 << other.slot - length : 0;
            return behind | ahead;
        }

        private void addWay(int house, int slots) {
            for (int other = 0; other < waySlots.length; other++) {
                waySlots[other] |= other == house ? 0 : slots;
            }
        }

        /** The slots at which a letter bars the lesson in a room. */
        int barredBy(int letter, Room where) {
            switch (letter) {
                case DAY_TOO_SHORT:
                    return tooLateSlots;
                case DAY_PAST:
                    return pastSlots;
                case DAY_OFF:
                    return teacher.slotsOff;
                case OTHER_KIND:
                    return where.kind != kind ? ALL_SLOTS : 0;
                case TOO_FEW_SEATS:
                    return where.seats < group.pupils ? ALL_SLOTS : 0;
                case CLOSED:
                    return where.isOpen ? 0 : ALL_SLOTS;
                case ROOM_TAKEN:
                    return at(roomSlots, where.number);
                case TEACHER_TAKEN:
                    return teacherSlots;
                case GROUP_TAKEN:
                    return groupSlots;
                case WAY_BETWEEN_HOUSES:
                    return at(waySlots, where.house);
                default:
                    return 0;
            }
        }

        /** The slots at which one of the letters from a first one to ahead of an end bars the lesson in a room. */
        int barredByOneOf(int first, int end, Room where) {
            int slots = 0;
            for (int letter = first; letter < end; letter++) {
                slots |= barredBy(letter, where);
            }
            return slots;
        }

        int lettersAt(int from, Room where) {
            int letters = 0;
            for (int letter = 0; letter < LETTERS.length(); letter++) {
                letters |= has(barredBy(letter, where), from) ? 1 << letter : 0;
            }
            return letters;
        }

        /** Finds the possible slots in each room; rooms that there are not have none. */
        void findPossibleSlots(ArrayList<Room> rooms) {
            Arrays.fill(possibleSlots, 0);
            for (int i = 0; i < rooms.size() && i < possibleSlots.length; i++) {
                possibleSlots[i] = ALL_SLOTS;
                for (int letter = 0; letter < LETTERS.length(); letter++) {
                    possibleSlots[i] &= ~barredBy(letter, rooms.get(i));
                }
            }
        }

        void leaveOutOwnPlace() {
            if (room != null && room.number >= 0 && room.number < possibleSlots.length) {
                possibleSlots[room.number] &= ~(1 << slot);
            }
        }

        int countPossiblePlaces() {
            int count = 0;
            for (int i = 0; i < possibleSlots.length; i++) {
                count += Integer.bitCount(possibleSlots[i]);
            }
            return count;
        }

        /** The lowest number of the rooms in which a slot is possible, or NOWHERE. */
        int firstRoomAt(int from) {
            for (int i = 0; i < possibleSlots.length; i++) {
                if (has(possibleSlots[i], from)) {
                    return i;
                }
            }
            return NOWHERE;
        }

        boolean isPossible(int place) {
            return place >= 0 && has(at(possibleSlots, place % ROOMS_A_SLOT), place / ROOMS_A_SLOT);
        }

        /** How much a piece has more with the lesson from a slot on than without the lesson. */
        int addedTo(int piece, int from) {
            int hours = hoursFrom(from);
            switch (piece) {
                case GAPS:
                    int hoursOfDay = groupHours & slotsOfDay(from / HOURS);
                    return Integer.bitCount(gapsAmong(hoursOfDay | hours)) - Integer.bitCount(gapsAmong(hoursOfDay));
                case LATE_HOURS:
                    return (hours & LAST_HOURS) != 0 ? 1 + teacher.account : 0;
                case WISHES:
                    return wishesIn(hours);
                case CROWDS:
                    return at(mates, from / HOURS);
                default:
                    return 0;
            }
        }

        private int wishesIn(int hours) {
            int sum = 0;
            int rest = hours;
            for (int slot = 0; slot < teacher.wishes.length && rest != 0; slot++) {
                sum += (rest & 1) != 0 ? teacher.wishes[slot] : 0;
                rest >>>= 1;
            }
            return sum;
        }
    }

    // ---------------------------------------------------------------- the table

    /** The lessons in the rooms, and the amounts of the pieces, which each change of the table keeps. */
    private static final class Table {
        final ArrayList<Room> rooms = new ArrayList<>();
        final ArrayList<Group> groups = new ArrayList<>();
        final ArrayList<Lesson> lessons = new ArrayList<>();
        final int[] weights = {1, 1, 1, 1};
        final int[] amounts = new int[PIECES];
        int today;

        boolean isPast(Lesson lesson) {
            return lesson.room != null && lesson.slot / HOURS < today;
        }

        boolean isFree(Lesson lesson) {
            return !lesson.locked && !isPast(lesson);
        }

        int unplaced() {
            int set = 0;
            for (int i = 0; i < lessons.size(); i++) {
                set |= lessons.get(i).room == null ? 1 << i : 0;
            }
            return set;
        }

        void lookAround(Lesson lesson) {
            lesson.forgetOthers(today);
            for (int i = 0; i < lessons.size(); i++) {
                lesson.see(lessons.get(i));
            }
        }

        void judgePlaces(Lesson lesson) {
            lookAround(lesson);
            lesson.findPossibleSlots(rooms);
        }

        // ------------------------------------------------------------ changes

        void put(Lesson lesson, int slot, Room room) {
            lookAround(lesson);
            changeAmounts(lesson, -1);
            lesson.slot = slot;
            lesson.room = room;
            changeAmounts(lesson, 1);
        }

        /** Places a lesson at a place; NOWHERE changes nothing. */
        void putAt(Lesson lesson, int place) {
            int number = place % ROOMS_A_SLOT;
            if (place >= 0 && place / ROOMS_A_SLOT < SLOTS && number < rooms.size()) {
                put(lesson, place / ROOMS_A_SLOT, rooms.get(number));
            }
        }

        void take(Lesson lesson) {
            lookAround(lesson);
            changeAmounts(lesson, -1);
            lesson.slot = NOWHERE;
            lesson.room = null;
        }

        /** Adds so many times what a lesson that has looked around adds to the amounts where it is placed. */
        private void changeAmounts(Lesson lesson, int times) {
            for (int piece = 0; piece < amounts.length && lesson.room != null; piece++) {
                amounts[piece] += times * lesson.addedTo(piece, lesson.slot);
            }
        }

        void takeAll(int set) {
            for (int i = 0; i < lessons.size(); i++) {
                if (has(set, i)) {
                    take(lessons.get(i));
                }
            }
        }

        /** Removes some lessons, tries each of them once, and returns how many are not placed then. */
        int repair(int set) {
            takeAll(set);
            int untried = set;
            for (int turn = 0; turn < MOST_LESSONS; turn++) {
                Lesson lesson = findHardest(untried);
                if (lesson == null) {
                    break;
                }
                untried &= ~(1 << lesson.number);
                putAt(lesson, findCheapest(lesson));
            }
            return Integer.bitCount(set & unplaced());
        }

        void copyPlaces(int[] places) {
            Arrays.fill(places, NOWHERE);
            for (int i = 0; i < lessons.size() && i < places.length; i++) {
                places[i] = lessons.get(i).placeNow();
            }
        }

        /** Sets all free lessons to places, as far as those are possible. */
        void setFreeLessons(int[] places) {
            int free = 0;
            for (int i = 0; i < lessons.size(); i++) {
                free |= isFree(lessons.get(i)) ? 1 << i : 0;
            }
            takeAll(free);
            for (int i = 0; i < lessons.size(); i++) {
                Lesson lesson = lessons.get(i);
                if (has(free, i) && at(places, i) != NOWHERE) {
                    judgePlaces(lesson);
                    if (lesson.isPossible(at(places, i))) {
                        putAt(lesson, at(places, i));
                    }
                }
            }
        }

        int changeWish(Teacher teacher, int slot, int wish) {
            int before = at(teacher.wishes, slot);
            for (int i = 0; i < lessons.size(); i++) {
                Lesson lesson = lessons.get(i);
                if (lesson.teacher == teacher && has(lesson.hoursNow(), slot)) {
                    amounts[WISHES] += wish - before;
                }
            }
            if (slot >= 0 && slot < teacher.wishes.length) {
                teacher.wishes[slot] = wish;
            }
            return before;
        }

        int changeWeight(int piece, int weight) {
            int before = at(weights, piece);
            if (piece >= 0 && piece < weights.length) {
                weights[piece] = weight;
            }
            return before;
        }

        /** Lets the accounts grow by the late hours of the week, and the amount of late hours with them. */
        void bookLateHours() {
            for (int i = 0; i < lessons.size(); i++) {
                Lesson lesson = lessons.get(i);
                if (isLate(lesson) && lesson.teacher.account < MOST_ACCOUNT) {
                    lesson.teacher.account++;
                    amounts[LATE_HOURS] += lateLessonsOf(lesson.teacher);
                }
            }
        }

        private static boolean isLate(Lesson lesson) {
            return (lesson.hoursNow() & LAST_HOURS) != 0;
        }

        private int lateLessonsOf(Teacher teacher) {
            int count = 0;
            for (int i = 0; i < lessons.size(); i++) {
                if (lessons.get(i).teacher == teacher && isLate(lessons.get(i))) {
                    count++;
                }
            }
            return count;
        }

        // ------------------------------------------------------------ places

        int countPossible(Lesson lesson) {
            judgePlaces(lesson);
            return lesson.countPossiblePlaces();
        }

        int findPossible(Lesson lesson, int index) {
            judgePlaces(lesson);
            int rest = index;
            for (int place = 0; place < ROOMS_A_SLOT * SLOTS; place++) {
                if (lesson.isPossible(place)) {
                    if (rest == 0) {
                        return place;
                    }
                    rest--;
                }
            }
            return NOWHERE;
        }

        int findCheapest(Lesson lesson) {
            judgePlaces(lesson);
            return cheapestAmongJudged(lesson);
        }

        int findCheapestElsewhere(Lesson lesson) {
            judgePlaces(lesson);
            lesson.leaveOutOwnPlace();
            return cheapestAmongJudged(lesson);
        }

        /** All rooms cost the same, so that of each slot the first possible room will do. */
        private int cheapestAmongJudged(Lesson lesson) {
            int best = NOWHERE;
            int leastCost = 0;
            for (int slot = 0; slot < SLOTS; slot++) {
                int room = lesson.firstRoomAt(slot);
                if (room != NOWHERE) {
                    int cost = addedCost(lesson, slot);
                    if (best == NOWHERE || cost < leastCost) {
                        best = ROOMS_A_SLOT * slot + room;
                        leastCost = cost;
                    }
                }
            }
            return best;
        }

        /** The hardest one of a set of lessons, or null if the set is empty. */
        Lesson findHardest(int set) {
            Lesson hardest = null;
            int fewest = 0;
            for (int i = 0; i < lessons.size(); i++) {
                if (has(set, i)) {
                    int count = countPossible(lessons.get(i));
                    if (hardest == null || count < fewest) {
                        hardest = lessons.get(i);
                        fewest = count;
                    }
                }
            }
            return hardest;
        }

        /** The lessons that are placed, not past, and barred where they are. */
        int broken() {
            int set = 0;
            for (int i = 0; i < lessons.size(); i++) {
                Lesson lesson = lessons.get(i);
                Room where = lesson.room;
                if (where != null && !isPast(lesson)) {
                    lookAround(lesson);
                    set |= lesson.lettersAt(lesson.slot, where) != 0 ? 1 << i : 0;
                }
            }
            return set;
        }

        int countBreaks() {
            return Integer.bitCount(broken());
        }

        // ------------------------------------------------------------ costs

        int costKept() {
            int sum = 0;
            for (int piece = 0; piece < PIECES; piece++) {
                sum += at(weights, piece) * at(amounts, piece);
            }
            return sum;
        }

        /** What a lesson that has looked around adds to the cost from a slot on. */
        private int addedCost(Lesson lesson, int slot) {
            int sum = 0;
            for (int piece = 0; piece < weights.length; piece++) {
                sum += weights[piece] == 0 ? 0 : weights[piece] * lesson.addedTo(piece, slot);
            }
            return sum;
        }

        /** What the table would cost with a lesson that has looked around from a slot on. */
        int costFrom(Lesson lesson, int slot) {
            int costWithout = costKept() - (lesson.room == null ? 0 : addedCost(lesson, lesson.slot));
            return costWithout + addedCost(lesson, slot);
        }

        /** The amount of a piece, from nothing but the places of the lessons. */
        int amountAnew(int piece) {
            switch (piece) {
                case GAPS:
                    return gapsAnew();
                case LATE_HOURS:
                    return lateHoursAnew();
                case WISHES:
                    return wishesAnew();
                case CROWDS:
                    return crowdsAnew();
                default:
                    return 0;
            }
        }

        private int gapsAnew() {
            int sum = 0;
            for (int i = 0; i < groups.size(); i++) {
                int hours = hoursOf(groups.get(i));
                for (int day = 0; day < DAYS; day++) {
                    sum += gapsOnDay(hours, day);
                }
            }
            return sum;
        }

        private int hoursOf(Group group) {
            int hours = 0;
            for (int i = 0; i < lessons.size(); i++) {
                hours |= lessons.get(i).group == group ? lessons.get(i).hoursNow() : 0;
            }
            return hours;
        }

        private static int gapsOnDay(int hours, int day) {
            int gaps = 0;
            int sinceLast = 0;
            boolean begun = false;
            for (int hour = 0; hour < HOURS; hour++) {
                if (has(hours, HOURS * day + hour)) {
                    gaps += begun ? sinceLast : 0;
                    sinceLast = 0;
                    begun = true;
                } else {
                    sinceLast++;
                }
            }
            return gaps;
        }

        private int lateHoursAnew() {
            int sum = 0;
            for (int i = 0; i < lessons.size(); i++) {
                sum += isLate(lessons.get(i)) ? 1 + lessons.get(i).teacher.account : 0;
            }
            return sum;
        }

        private int wishesAnew() {
            int sum = 0;
            for (int i = 0; i < lessons.size(); i++) {
                Lesson lesson = lessons.get(i);
                for (int hour = 0; hour < lesson.length; hour++) {
                    sum += lesson.room == null ? 0 : at(lesson.teacher.wishes, lesson.slot + hour);
                }
            }
            return sum;
        }

        private int crowdsAnew() {
            int sum = 0;
            for (int i = 0; i < lessons.size(); i++) {
                for (int j = 0; j < i; j++) {
                    sum += areCrowd(lessons.get(i), lessons.get(j)) ? 1 : 0;
                }
            }
            return sum;
        }

        private static boolean areCrowd(Lesson one, Lesson two) {
            return one.room != null && two.isOn(one.slot / HOURS)
                    && one.group == two.group && one.course == two.course;
        }
    }

    // ---------------------------------------------------------------- filling

    private static final class Filler {
        private static final int MOST_TURNS = 1000;
        /** In the row of others in the way: a place that throwing out does not open. */
        private static final int HOPELESS = 1000;

        /** For each place, how many other lessons bar it, and no other letter. */
        private final int[] othersInTheWay = new int[ROOMS_A_SLOT * SLOTS];

        void fillUp(Table table) {
            int givenUp = 0;
            int throwsSoFar = 0;
            for (int turn = 0; turn < MOST_TURNS; turn++) {
                Lesson lesson = table.findHardest(table.unplaced() & ~givenUp);
                if (lesson == null) {
                    return;
                }
                int place = table.findCheapest(lesson);
                if (place != NOWHERE) {
                    table.putAt(lesson, place);
                } else if (throwsSoFar < MOST_THROWS && throwOthersOut(table, lesson)) {
                    throwsSoFar++;
                } else {
                    givenUp |= 1 << lesson.number;
                }
            }
        }

        /** Places a lesson where the fewest others bar it, without those; false if there is no such place. */
        private boolean throwOthersOut(Table table, Lesson lesson) {
            countOthersInTheWay(table, lesson);
            int best = NOWHERE;
            int fewest = HOPELESS;
            for (int place = 0; place < othersInTheWay.length; place++) {
                if (othersInTheWay[place] < fewest) {
                    best = place;
                    fewest = othersInTheWay[place];
                }
            }
            if (best == NOWHERE) {
                return false;
            }
            for (int i = 0; i < table.lessons.size(); i++) {
                if (has(slotsBarredByOne(table, lesson, i, best % ROOMS_A_SLOT), best / ROOMS_A_SLOT)) {
                    table.take(table.lessons.get(i));
                }
            }
            table.putAt(lesson, best);
            return true;
        }

        private void countOthersInTheWay(Table table, Lesson lesson) {
            Arrays.fill(othersInTheWay, HOPELESS);
            table.lookAround(lesson);
            for (int room = 0; room < table.rooms.size(); room++) {
                addAtSlots(room, openSlots(lesson, table.rooms.get(room)), -HOPELESS);
            }
            for (int i = 0; i < table.lessons.size(); i++) {
                int each = table.lessons.get(i).locked ? HOPELESS : 1;
                for (int room = 0; room < table.rooms.size(); room++) {
                    addAtSlots(room, slotsBarredByOne(table, lesson, i, room), each);
                }
            }
        }

        /** The slots at which one other lesson bars a lesson in a room. */
        private static int slotsBarredByOne(Table table, Lesson lesson, int other, int room) {
            if (other >= table.lessons.size() || room >= table.rooms.size()) {
                return 0;
            }
            lesson.forgetOthers(table.today);
            lesson.see(table.lessons.get(other));
            return lesson.barredByOneOf(ROOM_TAKEN, LETTERS.length(), table.rooms.get(room));
        }

        /** The slots at which nothing but other lessons can bar a lesson in a room. */
        private static int openSlots(Lesson lesson, Room room) {
            return ALL_SLOTS & ~lesson.barredByOneOf(0, ROOM_TAKEN, room);
        }

        private void addAtSlots(int room, int slots, int count) {
            for (int slot = 0; slot < SLOTS; slot++) {
                int place = ROOMS_A_SLOT * slot + room;
                if (has(slots, slot) && place < othersInTheWay.length) {
                    othersInTheWay[place] += count;
                }
            }
        }
    }

    // ---------------------------------------------------------------- improving

    private static final class Improver {
        private static final int NOT_MOVED = -1000;

        private final int[] bestPlaces = new int[MOST_LESSONS];
        private final int[] stepOfMove = new int[MOST_LESSONS];

        void improveTable(Table table, int steps) {
            Arrays.fill(stepOfMove, NOT_MOVED);
            table.copyPlaces(bestPlaces);
            int leastCost = table.costKept();
            for (int step = 0; step < steps; step++) {
                Lesson lesson = findMover(table, step);
                if (lesson == null) {
                    break;
                }
                table.putAt(lesson, table.findCheapestElsewhere(lesson));
                noteMove(lesson, step);
                if (table.costKept() < leastCost) {
                    leastCost = table.costKept();
                    table.copyPlaces(bestPlaces);
                }
            }
            becomeBest(table);
        }

        /** The lesson that is moved in a step, or null. */
        private Lesson findMover(Table table, int step) {
            Lesson mover = null;
            int leastCost = 0;
            for (int i = 0; i < table.lessons.size(); i++) {
                Lesson lesson = table.lessons.get(i);
                int place = mayMove(table, lesson, step) ? table.findCheapestElsewhere(lesson) : NOWHERE;
                if (place != NOWHERE) {
                    int cost = table.costFrom(lesson, place / ROOMS_A_SLOT);
                    if (mover == null || cost < leastCost) {
                        mover = lesson;
                        leastCost = cost;
                    }
                }
            }
            return mover;
        }

        private boolean mayMove(Table table, Lesson lesson, int step) {
            return lesson.room != null && table.isFree(lesson)
                    && step - at(stepOfMove, lesson.number) > STEPS_OF_REST;
        }

        private void noteMove(Lesson lesson, int step) {
            if (lesson.number >= 0 && lesson.number < stepOfMove.length) {
                stepOfMove[lesson.number] = step;
            }
        }

        private void becomeBest(Table table) {
            int moved = 0;
            for (int i = 0; i < table.lessons.size(); i++) {
                moved |= table.lessons.get(i).placeNow() != at(bestPlaces, i) ? 1 << i : 0;
            }
            table.takeAll(moved);
            for (int i = 0; i < table.lessons.size(); i++) {
                if (has(moved, i)) {
                    table.putAt(table.lessons.get(i), at(bestPlaces, i));
                }
            }
        }
    }

    // ---------------------------------------------------------------- bounds

    private static final class Bounds {
        private final int[] hoursGiven = new int[MOST_ROOMS];

        /**
         * Gives each hour to a room, beginning with the largest groups: whatever room would do for a group
         * does for all smaller ones too, so that no choice among the rooms can be a wrong one.
         */
        int lackByGiving(Table table, int kind) {
            Arrays.fill(hoursGiven, 0);
            int lack = 0;
            int done = 0;
            for (int turn = 0; turn < table.lessons.size(); turn++) {
                Lesson lesson = largestGroup(table, kind, done);
                if (lesson == null) {
                    return lack;
                }
                done |= 1 << lesson.number;
                for (int hour = 0; hour < lesson.length; hour++) {
                    lack += giveHour(table, lesson) ? 0 : 1;
                }
            }
            return lack;
        }

        private static Lesson largestGroup(Table table, int kind, int done) {
            Lesson largest = null;
            for (int i = 0; i < table.lessons.size(); i++) {
                Lesson lesson = table.lessons.get(i);
                if (lesson.kind == kind && !has(done, i)
                        && (largest == null || lesson.group.pupils > largest.group.pupils)) {
                    largest = lesson;
                }
            }
            return largest;
        }

        private boolean giveHour(Table table, Lesson lesson) {
            for (int i = 0; i < table.rooms.size() && i < hoursGiven.length; i++) {
                Room room = table.rooms.get(i);
                if (room.isOpen && room.kind == lesson.kind && room.seats >= lesson.group.pupils
                        && hoursGiven[i] < SLOTS) {
                    hoursGiven[i]++;
                    return true;
                }
            }
            return false;
        }

        int lackByNumbers(Table table, int kind) {
            int most = Math.max(0, excessAbove(table, kind, 0));
            for (int i = 0; i < table.rooms.size(); i++) {
                most = Math.max(most, excessAbove(table, kind, table.rooms.get(i).seats));
            }
            return most;
        }

        /** How many more hours are for groups above a number than there are in rooms above it. */
        private static int excessAbove(Table table, int kind, int number) {
            int hours = 0;
            for (int i = 0; i < table.lessons.size(); i++) {
                Lesson lesson = table.lessons.get(i);
                hours += lesson.kind == kind && lesson.group.pupils > number ? lesson.length : 0;
            }
            for (int i = 0; i < table.rooms.size(); i++) {
                Room room = table.rooms.get(i);
                hours -= room.isOpen && room.kind == kind && room.seats > number ? SLOTS : 0;
            }
            return hours;
        }
    }
}
