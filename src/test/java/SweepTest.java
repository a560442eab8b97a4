import java.io.IOException;
import java.nio.file.Files;
import java.nio.file.Path;
import java.util.ArrayList;
import java.util.List;
import java.util.regex.Matcher;
import java.util.regex.Pattern;

/**
 * Each method of the face, with all combinations of arguments at the ends of their ranges and just outside, on
 * schools from nothing added to everything full: what it answers or throws is what PlainSchool does, so that of
 * several exceptions the one that is listed first is thrown. The names of the arguments are those of the document.
 */
public final class SweepTest {
    private static final int MOST_CALLS = 512;
    private static final int MOST_WRONG = 20;

    private final List<Line> history = new ArrayList<>();
    private final int rooms;
    private final int teachers;
    private final int groups;
    private final int lessons;
    private final int versions;
    private Termgrid grid;
    private PlainSchool plain;
    private int calls;
    private static int combinations;
    private static int wrong;

    private SweepTest(String... calls) {
        for (String call : calls) {
            for (String one : call.split("; ")) {
                history.add(new Line(one));
            }
        }
        rooms = count("addRoom");
        teachers = count("addTeacher");
        groups = count("addGroup");
        lessons = count("addLesson");
        versions = count("save");
    }

    public static void main(String[] args) throws IOException {
        List<String> methods = methodsOfTheFace();
        SweepTest[] schools = {new SweepTest(), people(), placed(), lockedAndPast(), full()};
        for (SweepTest school : schools) {
            for (String method : methods) {
                school.sweep(method);
            }
        }
        Check.due("wrong ones of " + combinations, wrong, 0);
        Check.due("there are many", combinations > 50_000, true);
        Check.end();
    }

    // ---------------------------------------------------------------- schools

    private static SweepTest people() {
        return new SweepTest("addTeacher(0)", "addGroup(20)", "addLesson(0, 0, 0, 2, 0)");
    }

    private static SweepTest placed() {
        return new SweepTest("addRoom(0, 0, 20); addRoom(1, 0, 20); addTeacher(8); addTeacher(0); addGroup(20); addGroup(20)",
                "addLesson(0, 0, 0, 1, 0); addLesson(1, 1, 0, 3, 0); addLesson(0, 1, 0, 2, 0); addLesson(0, 0, 0, 1, 0)",
                "place(0, 0, 0); place(1, 0, 1); place(2, 28, 0); save(); remove(2); save(); setWish(0, 0, 9)");
    }

    private static SweepTest lockedAndPast() {
        return new SweepTest("addRoom(0, 0, 20); addRoom(1, 0, 20); addRoom(2, 1, 1); addTeacher(8); addTeacher(0); addGroup(20)",
                "addLesson(0, 0, 0, 1, 0); addLesson(0, 1, 0, 3, 0); addLesson(0, 1, 0, 2, 0); addLesson(0, 0, 0, 1, 0)",
                "place(0, 24, 0); place(1, 0, 0); place(2, 27, 1); place(3, 5, 0); lock(0); lock(1); save(); lock(3); unlock(3)",
                "passDay(); passDay(); passDay(); passDay(); close(2)");
    }

    /** Everything that there can be, with places on two days alone. */
    private static SweepTest full() {
        List<String> calls = new ArrayList<>();
        for (int i = 0; i < 8; i++) {
            calls.add("addRoom(" + i % 3 + ", " + (i < 2 ? 0 : i % 4) + ", " + (i + 20) + "); addTeacher(24); addGroup(20)");
        }
        for (int i = 0; i < 16; i++) {
            calls.add("addLesson(" + i / 2 + ", " + i / 2 + ", 0, " + (1 + i % 3) + ", 0)");
        }
        calls.add("place(0, 0, 0); place(1, 6, 1); place(15, 3, 1); lock(15); save(); save(); save(); save(); remove(0)");
        calls.add("save(); place(0, 1, 0); save(); close(7); passDay()");
        return new SweepTest(calls.toArray(new String[0]));
    }

    private int count(String name) {
        int count = 0;
        for (Line line : history) {
            count += line.name.equals(name) ? 1 : 0;
        }
        return count;
    }

    // ---------------------------------------------------------------- arguments

    /** Each method as its name and the names of its arguments. */
    private static List<String> methodsOfTheFace() throws IOException {
        String document = Files.readString(Path.of("../shared/DOC.md"));
        String face = document.substring(document.indexOf("```java"), document.indexOf("## Terms"));
        List<String> methods = new ArrayList<>();
        Matcher line = Pattern.compile("    public \\w+ (\\w+\\(.*?\\))").matcher(face);
        while (line.find()) {
            methods.add(line.group(1).replace("int ", ""));
        }
        Check.due("the methods of the face", methods.size(), 44);
        return methods;
    }

    private int[] valuesOf(String argument) {
        return switch (argument) {
            case "house" -> ends(0, 2);
            case "kind", "piece" -> ends(0, 3);
            case "seats", "pupils" -> ends(1, 99);
            case "daysOff" -> ends(0, 31);
            case "length" -> ends(1, 3);
            case "course", "wish", "weight" -> ends(0, 9);
            case "slot" -> new int[] {Integer.MIN_VALUE, -1, 0, 1, 5, 6, 24, 27, 28, 29, 30, Integer.MAX_VALUE};
            case "day" -> new int[] {Integer.MIN_VALUE, -1, 0, 1, 3, 4, 5, Integer.MAX_VALUE};
            case "steps" -> new int[] {Integer.MIN_VALUE, -1, 0, 1, 2, 20, 21, Integer.MAX_VALUE};
            case "index" -> new int[] {Integer.MIN_VALUE, -1, 0, 1, 11, 239, 240, Integer.MAX_VALUE};
            case "room", "base", "version", "other", "group", "teacher", "lesson" -> numbers(argument);
            default -> throw new AssertionError(argument);
        };
    }

    private int[] numbers(String argument) {
        int count = switch (argument) {
            case "room" -> rooms;
            case "group" -> groups;
            case "teacher" -> teachers;
            case "lesson" -> lessons;
            default -> versions;
        };
        int[] few = {Integer.MIN_VALUE, -1, 0, count / 3, count / 2, count - 1, count, Integer.MAX_VALUE};
        return count < 2 ? ends(0, count - 1) : few;
    }

    private static int[] ends(int least, int most) {
        int[] ends = {Integer.MIN_VALUE, least - 1, least, most, most + 1, Integer.MAX_VALUE};
        return least < most ? ends : new int[] {Integer.MIN_VALUE, -1, 0, 1, Integer.MAX_VALUE};
    }

    // ---------------------------------------------------------------- combinations

    private void sweep(String method) {
        String name = method.substring(0, method.indexOf('('));
        String inside = method.substring(name.length() + 1, method.length() - 1);
        String[] arguments = inside.isEmpty() ? new String[0] : inside.split(", ");
        int count = 1;
        int[][] values = new int[arguments.length][];
        for (int i = 0; i < arguments.length; i++) {
            values[i] = valuesOf(arguments[i]);
            count *= values[i].length;
        }
        begin();
        for (int combination = 0; combination < count && wrong < MOST_WRONG; combination++) {
            StringBuilder call = new StringBuilder(name).append('(');
            int rest = combination;
            for (int i = 0; i < arguments.length; i++) {
                call.append(i == 0 ? "" : ", ").append(word(values[i][rest % values[i].length]));
                rest /= values[i].length;
            }
            compare(new Line(call.append(')').toString()));
        }
        compareTables(name);
    }

    private static String word(int value) {
        return value == Integer.MIN_VALUE ? "MIN" : value == Integer.MAX_VALUE ? "MAX" : "" + value;
    }

    private void begin() {
        grid = new Termgrid();
        plain = new PlainSchool();
        for (Line line : history) {
            differ(line, line.answerOn(grid), line.answerOn(plain));
        }
        calls = history.size();
    }

    /** A call that is refused changes nothing, so that the next one goes to the same objects. */
    private void compare(Line line) {
        combinations++;
        calls++;
        String answer = line.answerOn(grid);
        differ(line, answer, line.answerOn(plain));
        if (!answer.startsWith("throws.") || calls > MOST_CALLS / 2) {
            compareTables(line.text);
            begin();
        }
    }

    private void compareTables(String after) {
        String[] lists = {"placeOf", "isLocked", "possible", "account", "amount", "lacking", "today", "cost", "breaks"};
        for (String name : lists) {
            for (int i = 0; i < 16; i++) {
                Line line = new Line(name + (name.matches("today|cost|breaks") ? "()" : "(" + i + ")"));
                String answer = line.answerOn(grid);
                differ(line, answer, line.answerOn(plain));
                if (answer.startsWith("throws.I") || line.text.endsWith("()")) {
                    break;
                }
            }
        }
        Check.due(after + " leaves the school sound", grid.isSound(), true);
    }

    private void differ(Line line, String got, String due) {
        if (!got.equals(due)) {
            wrong++;
            System.out.println("with " + lessons + " lessons: " + line.text + " answered " + got + ", due is " + due);
        }
    }
}
