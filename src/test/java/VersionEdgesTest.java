/** The boundary cases of the promises 38 to 42: versions that are saved, looked at, compared, restored and merged. */
public final class VersionEdgesTest {
    public static void main(String[] args) {
        saveUpToSix();
        saveOfNothing();
        saveKeepsWhatThereIs();
        placeInRanges();
        placeInOrderOfExceptions();
        placeInWithoutAPlace();
        differencesRanges();
        differencesOfTheSame();
        differencesOfEachKind();
        restoreRanges();
        restoreOfAnEmptyVersion();
        restoreReturnsEachDifference();
        restoreOfLockedAndPast();
        restoreWhereBarred();
        restoreByRisingNumbers();
        mergeRanges();
        mergeWithItself();
        mergeOfOneSide();
        mergeOfBothSides();
        mergeOfLockedAndPast();
        mergeWherePlacesAreBarred();
        mergeOfLaterLessons();
        Check.end();
    }

    /** One room; the lessons have one hour, the same people, and no costs but gaps and late hours. */
    private static Scene school(int lessons) {
        Scene x = new Scene("addRoom(0, 0, 20)", "addTeacher(0)", "addGroup(20)", "setWeight(3, 0)");
        for (int i = 0; i < lessons; i++) {
            x.then("addLesson(0, 0, 0, 1, 0)");
        }
        return x;
    }

    /** Places the lessons in slots; -1 is for one that is not placed. */
    private static Scene at(Scene x, int... slots) {
        for (int i = 0; i < slots.length; i++) {
            if (slots[i] >= 0) {
                x.then("place(" + i + ", " + slots[i] + ", 0)");
            }
        }
        return x;
    }

    private static Scene slots(Scene x, int... slots) {
        for (int i = 0; i < slots.length; i++) {
            if (slots[i] < 0) {
                x.refusesElement("placeOf(" + i + ")");
            } else {
                x.due("placeOf(" + i + ")", 8 * slots[i]);
            }
        }
        return x.due("isSound()", true);
    }

    // ---------------------------------------------------------------- promise 38

    private static void saveUpToSix() {
        Scene x = school(1);
        for (int i = 0; i < 6; i++) {
            x.then("place(0, " + i + ", 0)").due("save()", i);
        }
        x.refusesState("save()").then("remove(0)").refusesState("save()").due("restore(5)", 0).refusesState("save()");
        for (int i = 0; i < 6; i++) {
            x.due("placeIn(" + i + ", 0)", 8 * i);
        }
    }

    private static void saveOfNothing() {
        Scene x = new Scene();
        for (int i = 0; i < 6; i++) {
            x.due("save()", i);
        }
        x.refusesState("save()").due("differences(0, 5)", 0).due("restore(5)", 0).due("merge(0, 5)", 0);
        x.refusesIndex("placeIn(0, 0)").refusesElement("placeIn(6, 0)");
    }

    private static void saveKeepsWhatThereIs() {
        Scene x = school(16);
        for (int i = 0; i < 16; i++) {
            x.then("place(" + i + ", " + (29 - i) + ", 0)");
        }
        x.due("save()", 0).then("fill()", "improve(3)", "lock(0)").due("placeIn(0, 15)", 112).due("placeIn(0, 0)", 232);
        x.then("unlock(0)", "close(0)").due("placeIn(0, 15)", 112).due("save()", 1).refusesElement("placeIn(1, 0)", "placeIn(1, 15)");
        x.due("differences(0, 1)", 16).due("restore(0)", 16).then("open(0)").due("restore(0)", 0).due("restore(1)", 0);
    }

    // ---------------------------------------------------------------- promise 39

    private static void placeInRanges() {
        Scene x = at(school(2), 0, 29).then("save()", "remove(0)", "save()");
        x.refusesElement("placeIn(-1, 0)", "placeIn(2, 0)", "placeIn(MIN, 0)", "placeIn(MAX, 0)", "placeIn(6, 0)");
        x.refusesIndex("placeIn(0, -1)", "placeIn(0, 2)", "placeIn(0, MIN)", "placeIn(0, MAX)", "placeIn(0, 16)");
        x.due("placeIn(0, 0)", 0).due("placeIn(0, 1)", 232).due("placeIn(1, 1)", 232).refusesElement("placeIn(1, 0)");
    }

    private static void placeInOrderOfExceptions() {
        new Scene().refusesElement("placeIn(0, 0)", "placeIn(-1, -1)", "placeIn(0, MAX)");
        school(1).refusesElement("placeIn(0, 0)", "placeIn(0, 1)").then("save()").refusesElement("placeIn(0, 0)", "placeIn(1, 1)")
                .refusesIndex("placeIn(0, 1)", "placeIn(0, -1)").refusesElement("placeIn(1, -1)", "placeIn(-1, 1)");
    }

    private static void placeInWithoutAPlace() {
        Scene x = at(school(2), 3).then("save()").due("placeIn(0, 0)", 24).refusesElement("placeIn(0, 1)").refusesIndex("placeIn(0, 2)");
        x.then("addLesson(0, 0, 0, 1, 0)", "place(2, 5, 0)").refusesElement("placeIn(0, 2)").refusesIndex("placeIn(0, 3)");
        x.then("save()").due("placeIn(1, 2)", 40).refusesElement("placeIn(0, 2)", "placeIn(1, 1)");
    }

    // ---------------------------------------------------------------- promise 40

    private static void differencesRanges() {
        new Scene().refusesElement("differences(0, 0)", "differences(-1, -1)");
        Scene x = school(1).then("save()");
        x.refusesElement("differences(-1, 0)", "differences(1, 0)", "differences(MIN, 0)", "differences(MAX, 0)");
        x.refusesElement("differences(0, -1)", "differences(0, 1)", "differences(0, MIN)", "differences(0, MAX)");
        x.refusesElement("differences(1, 1)", "differences(6, 6)").due("differences(0, 0)", 0);
    }

    private static void differencesOfTheSame() {
        Scene x = at(school(3), 0, 1).then("save()", "save()").due("differences(0, 0)", 0).due("differences(0, 1)", 0);
        x.then("lock(0)", "addLesson(0, 0, 0, 1, 0)", "passDay()", "save()").due("differences(0, 2)", 0).due("differences(2, 0)", 0);
    }

    private static void differencesOfEachKind() {
        Scene x = at(school(2).then("addRoom(0, 0, 20)"), 0, 1).then("save()", "place(0, 0, 1)", "save()").due("differences(0, 1)", 1);
        x.then("place(0, 7, 0)", "save()").due("differences(0, 2)", 1).then("remove(1)", "save()").due("differences(2, 3)", 1);
        x.due("differences(0, 3)", 2).due("differences(3, 0)", 2).then("addLesson(0, 0, 0, 1, 0)", "place(2, 1, 0)", "save()");
        x.due("differences(3, 4)", 1).due("differences(4, 3)", 1).due("differences(0, 4)", 3).due("differences(4, 4)", 0);
        Scene all = school(16).then("save()");
        for (int i = 0; i < 16; i++) {
            all.then("place(" + i + ", " + i + ", 0)");
        }
        all.then("save()").due("differences(0, 1)", 16).due("differences(1, 0)", 16).due("differences(1, 1)", 0);
    }

    // ---------------------------------------------------------------- promise 41

    private static void restoreRanges() {
        new Scene().refusesElement("restore(0)", "restore(-1)");
        Scene x = at(school(1), 3).then("save()");
        x.refusesElement("restore(-1)", "restore(1)", "restore(6)", "restore(MIN)", "restore(MAX)").due("restore(0)", 0);
        slots(x.then("save()", "save()", "save()", "save()", "save()").due("restore(5)", 0), 3).refusesElement("restore(6)");
    }

    private static void restoreOfAnEmptyVersion() {
        Scene x = at(school(0).then("save()", "addLesson(0, 0, 0, 1, 0)", "addLesson(0, 0, 0, 1, 0)"), 4, 5);
        slots(x.with().due("restore(0)", 0), -1, -1).due("cost()", 0);
        slots(x.with("lock(0)").due("restore(0)", 1), 4, -1);
        slots(x.with("passDay()").due("restore(0)", 2), 4, 5);
    }

    private static void restoreReturnsEachDifference() {
        Scene x = at(school(4), 0, 6, 12).then("save()");
        slots(x.with("place(0, 29, 0)", "remove(1)", "place(3, 6, 0)").due("restore(0)", 0), 0, 6, 12, -1);
        slots(x.with("place(0, 29, 0)", "remove(1)", "ill(0, 1)").due("restore(0)", 1), 0, -1, 12, -1);
        slots(x.with("place(3, 18, 0)", "lock(3)").due("restore(0)", 1), 0, 6, 12, 18);
        slots(x.with("place(3, 7, 0)", "place(1, 8, 0)", "lock(1)", "lock(3)", "ill(0, 2)").due("restore(0)", 3),
                0, 8, -1, 7);
    }

    private static void restoreOfLockedAndPast() {
        Scene x = at(school(5), 0, 1, 6, 12, 13).then("save()", "place(0, 2, 0)", "place(2, 14, 0)", "place(3, 15, 0)", "lock(3)");
        x.then("place(4, 7, 0)", "passDay()").due("restore(0)", 2);
        slots(x, 2, 1, 6, 15, 13).due("isLocked(3)", true);
        x.then("passDay()").due("restore(0)", 2);
        slots(x, 2, 1, 6, 15, 13).then("unlock(3)").due("restore(0)", 1);
        slots(x, 2, 1, 6, 12, 13).then("passDay()").due("restore(0)", 1);
    }

    /** A day off, a past day, a closed room, and a lesson that is locked in the way. */
    private static void restoreWhereBarred() {
        Scene x = at(school(3).then("addRoom(0, 0, 20)", "addGroup(20)", "addTeacher(0)", "addLesson(1, 1, 0, 1, 0)"), 6, 12, 18);
        x.then("place(3, 24, 1)", "save()");
        slots(x.with("ill(0, 2)").due("restore(0)", 1), 6, -1, 18);
        slots(x.with("place(0, 29, 0)", "passDay()", "passDay()").due("restore(0)", 1), -1, 12, 18);
        slots(x.with("close(0)").due("restore(0)", 3), -1, -1, -1).due("placeOf(3)", 193);
        slots(x.with("place(2, 29, 0)", "place(3, 18, 0)", "lock(3)").due("restore(0)", 2), 6, 12, -1).due("placeOf(3)", 144);
        slots(x.with("place(2, 29, 0)", "place(3, 18, 0)").due("restore(0)", 0), 6, 12, 18).due("placeOf(3)", 193);
        slots(x.with("place(0, 0, 0)", "place(1, 6, 0)", "lock(1)").due("restore(0)", 2), -1, 6, 18);
    }

    /** All free lessons are removed before the first one is placed, so that they can change their places. */
    private static void restoreByRisingNumbers() {
        Scene x = at(school(3), 0, 1, 2).then("save()", "place(0, 3, 0)", "place(1, 0, 0)", "place(2, 1, 0)").due("restore(0)", 0);
        slots(x, 0, 1, 2);
        x.then("place(0, 3, 0)", "place(1, 0, 0)", "lock(1)", "place(2, 1, 0)").due("restore(0)", 2);
        slots(x, -1, 0, 2);
    }

    // ---------------------------------------------------------------- promise 42

    private static void mergeRanges() {
        new Scene().refusesElement("merge(0, 0)", "merge(-1, -1)");
        Scene x = at(school(1), 3).then("save()");
        x.refusesElement("merge(-1, 0)", "merge(1, 0)", "merge(6, 0)", "merge(MIN, 0)", "merge(MAX, 0)");
        x.refusesElement("merge(0, -1)", "merge(0, 1)", "merge(0, 6)", "merge(0, MIN)", "merge(0, MAX)", "merge(1, 1)");
        x.then("place(0, 4, 0)", "save()", "save()", "save()", "save()", "save()").due("merge(0, 5)", 0).due("merge(5, 5)", 0);
        slots(x, 4);
        slots(x.due("merge(5, 0)", 0), 3).refusesElement("merge(0, 6)", "merge(6, 0)");
    }

    private static void mergeWithItself() {
        Scene x = at(school(3), 0, 1).then("save()", "place(0, 9, 0)", "remove(1)", "place(2, 10, 0)").due("merge(0, 0)", 0);
        slots(x, 9, -1, 10).then("save()").due("merge(1, 1)", 0);
        slots(x, 9, -1, 10).due("merge(0, 1)", 0);
        slots(x, 9, -1, 10);
    }

    /** What one side alone changes is taken from it: moved, removed and placed, first by the version, then by the table. */
    private static void mergeOfOneSide() {
        Scene x = at(school(6), 0, 1, -1, 3, 4, -1).then("save()", "place(0, 6, 0)", "remove(1)", "place(2, 7, 0)", "save()");
        x.then("restore(0)", "place(3, 12, 0)", "remove(4)", "place(5, 13, 0)").due("merge(0, 1)", 0);
        slots(x, 6, -1, 7, 12, -1, 13).due("merge(0, 1)", 0);
        slots(x, 6, -1, 7, 12, -1, 13);
    }

    /**
     * Lessons 0 to 2 are changed in the same way by both: moved, removed, placed. Lessons 3 to 6 are not: both
     * move them, the table or the version alone removes them, or both place them.
     */
    private static void mergeOfBothSides() {
        Scene x = at(school(7), 0, 1, -1, 3, 4, 5, -1).then("save()");
        x.then("place(0, 6, 0)", "remove(1)", "place(2, 7, 0)", "place(3, 8, 0)", "place(4, 9, 0)", "remove(5)", "place(6, 10, 0)");
        x.then("save()", "place(3, 12, 0)", "remove(4)", "place(5, 13, 0)", "place(6, 14, 0)").due("merge(0, 1)", 4);
        slots(x, 6, -1, 7, 12, -1, 13, 14).due("differences(0, 1)", 7);
        slots(x.due("merge(1, 0)", 4), 0, 1, -1, 12, -1, 13, 14);
    }

    /** Lessons 0 and 1 are locked, 2 and 3 past: they stay, but one of each two is a conflict. */
    private static void mergeOfLockedAndPast() {
        Scene x = at(school(5), 12, 13, 0, 1, 14).then("save()", "place(0, 18, 0)", "place(1, 19, 0)", "place(2, 6, 0)");
        x.then("place(3, 7, 0)", "place(4, 20, 0)", "save()", "restore(0)", "place(0, 24, 0)", "lock(0)", "lock(1)");
        x.then("place(2, 2, 0)", "passDay()").due("merge(0, 1)", 2);
        slots(x, 24, 13, 2, 1, 20).due("isLocked(0)", true).due("isLocked(1)", true);
    }

    /** What is set to a place that is barred by then is not placed, neither there nor where it was. */
    private static void mergeWherePlacesAreBarred() {
        Scene x = at(school(3), 6, 12, 18).then("save()", "place(0, 0, 0)", "place(1, 24, 0)", "save()", "restore(0)");
        slots(x.with("passDay()").due("merge(0, 1)", 0), -1, 24, 18);
        slots(x.with("ill(0, 4)").due("merge(0, 1)", 0), 0, -1, 18);
        slots(x.with("place(2, 24, 0)").due("merge(0, 1)", 0), 0, 24, -1);
        slots(x.with("place(2, 24, 0)", "lock(2)").due("merge(0, 1)", 0), 0, -1, 24);
        slots(x.with("place(2, 0, 0)", "close(0)").due("merge(0, 1)", 2), -1, -1, -1);
    }

    private static void mergeOfLaterLessons() {
        Scene x = at(school(1), 0).then("save()", "addLesson(0, 0, 0, 1, 0)", "place(1, 6, 0)", "save()", "addLesson(0, 0, 0, 1, 0)");
        x.then("place(2, 12, 0)");
        slots(x.with().due("merge(0, 1)", 0), 0, 6, 12);
        slots(x.with("place(1, 7, 0)").due("merge(0, 1)", 1), 0, 7, 12);
        slots(x.with("remove(1)").due("merge(0, 1)", 0), 0, 6, 12);
        slots(x.with().due("merge(1, 0)", 0), 0, -1, 12);
        slots(x.with("place(1, 7, 0)").due("merge(1, 0)", 1), 0, 7, 12);
    }
}
