/** The boundary cases of the promises 8 and 9: each letter where it begins and ends, and the least reasons. */
public final class BarsEdgesTest {
    public static void main(String[] args) {
        reasonRanges();
        reasonOrderOfExceptions();
        notOnTheSameDay();
        aheadOfToday();
        dayOff();
        kindSeatsAndClosed();
        roomTaken();
        teacherOrGroupTaken();
        betweenHouses();
        betweenHousesAtTheEndsOfADay();
        firstLetterOfWhatTheSchoolHas();
        firstLetterOfWhatTheTableHas();
        ownPlaceDoesNotMatter();
        reasonsRanges();
        reasonsOrderOfExceptions();
        reasonsWithoutRooms();
        reasonsOfOneLetter();
        reasonsOfFewestLetters();
        reasonsOfFiveLetters();
        reasonsWithOnePossiblePlace();
        Check.end();
    }

    /** A room of 20 seats; the lessons 0, 1 and 2 of the lengths 1, 2 and 3 have the same teacher and group. */
    private static Scene lengths() {
        return new Scene("addRoom(0, 0, 20)", "addTeacher(0)", "addGroup(20)",
                "addLesson(0, 0, 0, 1, 0)", "addLesson(0, 0, 0, 2, 0)", "addLesson(0, 0, 0, 3, 0)");
    }

    /** What reason answers for the slots of a lesson in a room, a word for each day. */
    private static void reasons(Scene x, int lesson, int room, String... days) {
        for (int slot = 0; slot < 30; slot++) {
            char want = days[Math.min(slot / 6, days.length - 1)].charAt(slot % 6);
            x.due("reason(" + lesson + ", " + slot + ", " + room + ")", want);
        }
    }

    // ---------------------------------------------------------------- promise 8

    private static void reasonRanges() {
        Scene x = lengths();
        x.refusesIndex("reason(-1, 0, 0)", "reason(3, 0, 0)", "reason(MIN, 0, 0)", "reason(MAX, 0, 0)");
        x.refusesArgument("reason(0, -1, 0)", "reason(0, 30, 0)", "reason(0, MIN, 0)", "reason(0, MAX, 0)");
        x.refusesArgument("reason(0, 0, -1)", "reason(0, 0, 1)", "reason(0, 0, MIN)", "reason(0, 0, MAX)");
        x.due("reason(0, 0, 0)", '-').due("reason(0, 29, 0)", '-').due("reason(2, 29, 0)", 'h');
        for (int i = 1; i < 8; i++) {
            x.then("addRoom(0, 0, 20)");
        }
        for (int i = 3; i < 16; i++) {
            x.then("addLesson(0, 0, 0, 1, 0)");
        }
        x.due("reason(15, 29, 7)", '-').refusesArgument("reason(15, 29, 8)").refusesIndex("reason(16, 29, 7)");
    }

    private static void reasonOrderOfExceptions() {
        new Scene().refusesIndex("reason(0, 0, 0)", "reason(0, 30, 8)", "reason(-1, -1, -1)");
        Scene x = lengths();
        x.refusesIndex("reason(3, 30, 0)", "reason(3, 0, 1)", "reason(-1, -1, -1)");
        x.refusesArgument("reason(2, 30, 1)", "reason(2, -1, -1)");
        new Scene("addTeacher(0)", "addGroup(1)", "addLesson(0, 0, 0, 1, 0)").refusesArgument("reason(0, 0, 0)");
    }

    private static void notOnTheSameDay() {
        Scene x = lengths();
        reasons(x, 0, 0, "------");
        reasons(x, 1, 0, "-----h");
        reasons(x, 2, 0, "----hh");
    }

    private static void aheadOfToday() {
        Scene x = lengths();
        String[] days = {"------", "------", "------", "------", "------"};
        for (int today = 1; today < 5; today++) {
            x.then("passDay()");
            days[today - 1] = "pppppp";
            reasons(x, 0, 0, days);
        }
        x.then("nextWeek()");
        reasons(x, 0, 0, "------");
    }

    private static void dayOff() {
        Scene x = new Scene("addRoom(0, 0, 20)", "addTeacher(17)", "addGroup(20)", "addLesson(0, 0, 0, 1, 0)");
        reasons(x, 0, 0, "oooooo", "------", "------", "------", "oooooo");
        x.then("ill(0, 2)");
        reasons(x, 0, 0, "oooooo", "------", "oooooo", "------", "oooooo");
    }

    private static void kindSeatsAndClosed() {
        Scene x = new Scene("addTeacher(0)", "addGroup(20)", "addLesson(0, 0, 2, 1, 0)");
        x.then("addRoom(0, 1, 20)", "addRoom(0, 2, 20)", "addRoom(0, 3, 20)", "addRoom(0, 2, 19)", "addRoom(0, 2, 99)");
        String letters = "k-ks-";
        for (int room = 0; room < 5; room++) {
            x.due("reason(0, 0, " + room + ")", letters.charAt(room));
            x.due("reason(0, 29, " + room + ")", letters.charAt(room));
        }
        x.then("close(1)").due("reason(0, 0, 1)", 'c').due("reason(0, 29, 1)", 'c').due("reason(0, 0, 4)", '-');
        x.then("open(1)").due("reason(0, 0, 1)", '-');
    }

    /** Each lesson from 3 on has a teacher and a group of its own. */
    private static void roomTaken() {
        Scene x = lengths().then("addRoom(0, 0, 20)", "place(2, 7, 0)");
        for (int i = 1; i < 4; i++) {
            x.then("addTeacher(0)", "addGroup(20)", "addLesson(" + i + ", " + i + ", 0, " + i + ", 0)");
        }
        reasons(x, 3, 0, "------", "-rrr--", "------");
        reasons(x, 4, 0, "-----h", "rrrr-h", "-----h");
        reasons(x, 5, 0, "----hh", "rrrrhh", "----hh");
        reasons(x, 3, 1, "------");
        x.then("place(2, 9, 0)");
        reasons(x, 3, 0, "------", "---rrr", "------");
        x.then("place(2, 6, 0)");
        reasons(x, 3, 0, "------", "rrr---", "------");
        x.then("place(2, 27, 0)");
        reasons(x, 3, 0, "------", "------", "------", "------", "---rrr");
        x.then("remove(2)");
        reasons(x, 3, 0, "------");
    }

    private static void teacherOrGroupTaken() {
        Scene x = lengths().then("addRoom(0, 0, 20)", "addTeacher(0)", "addGroup(20)", "place(2, 8, 0)");
        x.then("addLesson(1, 0, 0, 1, 0)", "addLesson(0, 1, 0, 1, 0)", "addLesson(1, 1, 0, 1, 0)", "addLesson(0, 1, 0, 2, 0)");
        reasons(x, 3, 1, "------", "--ttt-", "------");
        reasons(x, 4, 1, "------", "--ggg-", "------");
        reasons(x, 5, 1, "------");
        reasons(x, 6, 1, "-----h", "-ggggh", "-----h");
        reasons(x, 4, 0, "------", "--rrr-", "------");
        x.then("place(2, 0, 0)");
        reasons(x, 3, 1, "ttt---", "------");
        x.then("place(2, 27, 0)", "place(3, 1, 0)", "addLesson(1, 0, 0, 1, 0)", "addLesson(0, 0, 0, 1, 0)", "place(7, 6, 0)");
        reasons(x, 8, 1, "-t----", "t-----", "------", "------", "---ttt");
        x.then("remove(7)", "remove(3)", "place(4, 1, 0)", "addLesson(0, 1, 0, 1, 0)", "place(9, 6, 0)");
        reasons(x, 8, 1, "-g----", "g-----", "------", "------", "---ttt");
    }

    /** Lesson 1, in the slots 8 and 9 of the house 0, and others of its teacher, its group, neither or both. */
    private static Scene houses() {
        Scene x = lengths().then("addRoom(1, 0, 20)", "addRoom(2, 0, 20)", "addRoom(0, 0, 20)");
        x.then("addTeacher(0)", "addGroup(20)", "place(1, 8, 0)");
        return x.then("addLesson(1, 0, 0, 1, 0)", "addLesson(0, 1, 0, 1, 0)", "addLesson(1, 1, 0, 1, 0)");
    }

    private static void betweenHouses() {
        Scene x = houses();
        reasons(x, 3, 1, "------", "-vttv-", "------");
        reasons(x, 3, 2, "------", "-vttv-", "------");
        reasons(x, 3, 3, "------", "--tt--", "------");
        reasons(x, 3, 0, "------", "--rr--", "------");
        reasons(x, 4, 1, "------", "-vggv-", "------");
        reasons(x, 4, 3, "------", "--gg--", "------");
        reasons(x, 5, 1, "------");
        reasons(x, 0, 1, "------", "-vttv-", "------");
        reasons(x, 2, 1, "----hh", "tttthh", "----hh");
        x.then("place(1, 9, 2)");
        reasons(x, 2, 1, "----hh", "vttthh", "----hh");
        reasons(x, 3, 0, "------", "--vttv", "------");
        x.then("remove(1)");
        reasons(x, 3, 1, "------");
    }

    private static void betweenHousesAtTheEndsOfADay() {
        Scene x = houses().then("place(1, 10, 0)");
        reasons(x, 3, 1, "------", "---vtt", "------");
        reasons(x, 2, 1, "----hh", "-vtthh", "----hh");
        x.then("place(1, 6, 0)");
        reasons(x, 3, 1, "------", "ttv---", "------");
        x.then("place(1, 28, 0)");
        reasons(x, 4, 1, "------", "------", "------", "------", "---vgg");
        x.then("place(1, 0, 0)");
        reasons(x, 4, 1, "ggv---", "------");
    }

    /** Of the rooms 0 to 3, each is barred by one letter less; the days 0 and 1 are off, and the day 0 is past. */
    private static void firstLetterOfWhatTheSchoolHas() {
        Scene x = new Scene("addRoom(0, 1, 19)", "addRoom(0, 0, 19)", "addRoom(0, 0, 20)", "addRoom(0, 0, 20)");
        x.then("addTeacher(3)", "addGroup(20)", "addLesson(0, 0, 0, 2, 0)");
        x.then("close(0)", "close(1)", "close(2)", "passDay()");
        reasons(x, 0, 0, "ppppph", "oooooh", "kkkkkh");
        reasons(x, 0, 1, "ppppph", "oooooh", "sssssh");
        reasons(x, 0, 2, "ppppph", "oooooh", "ccccch");
        reasons(x, 0, 3, "ppppph", "oooooh", "-----h");
    }

    /**
     * Lesson 0 is in slot 14 of room 0, and lesson 3, with other people, in slot 15 of room 1, in another house.
     * Lesson 4 has the people of lesson 0, lesson 5 its group and the teacher of lesson 3. The rooms 2 to 4 are
     * barred by themselves.
     */
    private static void firstLetterOfWhatTheTableHas() {
        Scene x = lengths().then("addRoom(1, 0, 20)", "addRoom(1, 1, 20)", "addRoom(1, 0, 19)", "addRoom(1, 0, 20)");
        x.then("addRoom(1, 0, 20)", "addTeacher(0)", "addGroup(20)", "addLesson(1, 1, 0, 1, 0)", "addLesson(0, 0, 0, 1, 0)");
        x.then("addRoom(0, 0, 20)", "addLesson(0, 1, 0, 1, 0)", "close(4)", "place(0, 14, 0)", "place(3, 15, 1)");
        reasons(x, 4, 0, "------", "------", "--r---", "------");
        reasons(x, 4, 1, "------", "------", "-vtr--", "------");
        reasons(x, 4, 2, "kkkkkk");
        reasons(x, 4, 3, "ssssss");
        reasons(x, 4, 4, "cccccc");
        reasons(x, 4, 5, "------", "------", "-vtv--", "------");
        reasons(x, 5, 5, "------", "------", "-vgt--", "------");
        reasons(x, 5, 6, "------", "------", "--gtv-", "------");
        x.then("passDay()", "passDay()", "passDay()");
        reasons(x, 5, 6, "pppppp", "pppppp", "pppppp", "------");
        reasons(x, 2, 0, "pppphh", "pppphh", "pppphh", "----hh");
        x.then("ill(0, 3)", "ill(0, 4)", "place(5, 20, 1)");
        reasons(x, 2, 1, "pppphh", "pppphh", "pppphh", "oooohh");
    }

    private static void ownPlaceDoesNotMatter() {
        Scene x = lengths().then("addRoom(1, 0, 20)", "place(2, 1, 0)");
        reasons(x, 2, 0, "----hh");
        reasons(x, 2, 1, "----hh");
        x.then("lock(2)");
        reasons(x, 2, 0, "----hh");
        reasons(x, 2, 1, "----hh");
        x.then("passDay()");
        reasons(x, 2, 0, "pppphh", "----hh");
    }

    // ---------------------------------------------------------------- promise 9

    private static void reasonsRanges() {
        Scene x = lengths().then("close(0)");
        x.refusesIndex("reasons(-1, 0)", "reasons(3, 0)", "reasons(MIN, 0)", "reasons(MAX, 0)");
        x.refusesArgument("reasons(0, -1)", "reasons(0, 30)", "reasons(0, MIN)", "reasons(0, MAX)");
        x.due("reasons(0, 0)", 32).due("reasons(0, 29)", 32).due("reasons(2, 0)", 32).due("reasons(2, 29)", 1);
        for (int i = 3; i < 16; i++) {
            x.then("addLesson(0, 0, 1, 1, 0)");
        }
        x.due("reasons(15, 29)", 8).refusesIndex("reasons(16, 29)");
    }

    private static void reasonsOrderOfExceptions() {
        new Scene().refusesIndex("reasons(0, 0)", "reasons(0, 30)", "reasons(-1, -1)");
        lengths().refusesIndex("reasons(3, 30)", "reasons(-1, -1)", "reasons(3, 0)").refusesArgument("reasons(0, 30)");
    }

    private static void reasonsWithoutRooms() {
        Scene x = new Scene("addTeacher(1)", "addGroup(20)", "addLesson(0, 0, 0, 2, 0)", "passDay()");
        x.due("reasons(0, 0)", 0).due("reasons(0, 5)", 0).due("reasons(0, 6)", 0).due("reasons(0, 29)", 0);
        x.refusesArgument("reasons(0, 30)", "reasons(0, -1)");
    }

    private static void reasonsOfOneLetter() {
        Scene x = lengths();
        x.due("reasons(1, 5)", 1);
        x.with("addTeacher(1)", "addLesson(0, 1, 0, 1, 0)").due("reasons(3, 5)", 4);
        x.with("passDay()").due("reasons(0, 5)", 2);
        x.with("addLesson(0, 0, 1, 1, 0)").due("reasons(3, 5)", 8);
        x.with("addGroup(21)", "addLesson(1, 0, 0, 1, 0)").due("reasons(3, 5)", 16);
        x.with("close(0)").due("reasons(0, 5)", 32);
        Scene more = x.with("addTeacher(0)", "addGroup(20)", "addRoom(1, 0, 20)", "addLesson(1, 1, 0, 1, 0)");
        more.then("addLesson(1, 0, 0, 1, 0)", "addLesson(0, 1, 0, 1, 0)");
        more.with("place(0, 5, 0)", "close(1)").refusesElement("reasons(3, 4)").due("reasons(3, 5)", 64 + 32);
        more.with("place(0, 5, 0)").due("reasons(4, 5)", 128).due("reasons(5, 5)", 256).due("reasons(1, 4)", 128);
        x.with("place(0, 5, 0)", "addTeacher(0)", "addGroup(20)", "addLesson(1, 1, 0, 1, 0)").due("reasons(3, 5)", 64);
        more.with("place(0, 3, 0)", "place(4, 5, 1)", "addLesson(0, 0, 0, 1, 0)").due("reasons(6, 4)", 512);
    }

    /** In slot 0, lesson 0 has another lesson of its teacher and its group in the way in each room. */
    private static void reasonsOfFewestLetters() {
        Scene x = new Scene("addTeacher(0)", "addGroup(20)", "addLesson(0, 0, 0, 1, 0)");
        x.then("addRoom(0, 1, 20)").due("reasons(0, 0)", 8);
        x.then("addRoom(0, 0, 19)").due("reasons(0, 0)", 8 + 16);
        x.then("addRoom(0, 1, 19)").due("reasons(0, 0)", 8 + 16);
        x.then("addRoom(0, 0, 20)", "close(3)").due("reasons(0, 0)", 8 + 16 + 32);
        x.then("close(0)").due("reasons(0, 0)", 16 + 32);
        x.then("close(1)").due("reasons(0, 0)", 8 + 32);
        x.then("close(2)").due("reasons(0, 0)", 32).due("reasons(0, 29)", 32);
        x.then("addRoom(0, 2, 20)").due("reasons(0, 0)", 8 + 32);
        x.then("addLesson(0, 0, 2, 1, 0)", "place(1, 0, 4)").due("reasons(0, 0)", 128).due("reasons(0, 1)", 8 + 32);
        x.then("passDay()").due("reasons(0, 0)", 2).due("reasons(0, 5)", 2).due("reasons(0, 6)", 8 + 32);
    }

    /** Each of five rooms is barred by another letter alone: k, s, c, r and v. */
    private static void reasonsOfFiveLetters() {
        Scene x = new Scene("addRoom(0, 1, 20)", "addRoom(0, 0, 19)", "addRoom(0, 0, 20)", "addRoom(0, 0, 20)");
        x.then("addRoom(1, 0, 20)", "addTeacher(0)", "addTeacher(0)", "addGroup(20)", "addGroup(19)");
        x.then("addLesson(0, 0, 0, 1, 0)", "addLesson(1, 0, 1, 1, 0)", "addLesson(1, 1, 0, 1, 0)", "close(2)");
        x.then("place(1, 0, 0)", "place(2, 1, 3)");
        String letters = "kscrv";
        for (int room = 0; room < 5; room++) {
            x.due("reason(0, 1, " + room + ")", letters.charAt(room));
        }
        x.due("reasons(0, 1)", 8 + 16 + 32 + 64 + 512);
        x.then("addRoom(0, 1, 19)", "addRoom(2, 0, 20)", "addRoom(2, 1, 20)");
        x.due("reasons(0, 1)", 8 + 16 + 32 + 64 + 512);
        x.then("remove(2)").refusesElement("reasons(0, 1)");
        x.then("place(2, 1, 3)", "remove(1)").refusesElement("reasons(0, 1)");
    }

    private static void reasonsWithOnePossiblePlace() {
        Scene x = lengths().then("close(0)");
        for (int i = 1; i < 7; i++) {
            x.then("addRoom(0, 1, 20)");
        }
        x.due("reasons(0, 0)", 8 + 32).then("addRoom(0, 0, 20)").refusesElement("reasons(0, 0)", "reasons(0, 29)");
        x.due("reasons(2, 28)", 1).refusesElement("reasons(2, 27)");
        x.then("place(2, 27, 7)").refusesElement("reasons(2, 27)", "reasons(2, 25)").due("reasons(0, 29)", 128);
        x.then("lock(2)").refusesElement("reasons(2, 27)");
    }
}
