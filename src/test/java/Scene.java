import java.util.ArrayList;
import java.util.List;
import java.util.NoSuchElementException;
import java.util.Set;

/**
 * A school that comes about by calls, written as in the document. PlainSchool is asked as well, so that an answer
 * that was worked out by hand is due from both. A call that must be refused, and one that only looks, is
 * checked to change nothing of what the school answers.
 */
final class Scene {
    private static final Set<String> CHANGES = Set.of("addRoom", "addTeacher", "addGroup", "addLesson", "setWish",
            "setWeight", "place", "remove", "lock", "unlock", "fill", "improve", "ill", "close", "open", "passDay",
            "nextWeek", "save", "restore", "merge");

    private final List<Line> history = new ArrayList<>();
    private final Termgrid grid = new Termgrid();
    private final PlainSchool plain = new PlainSchool();
    private String picture = "";

    /** The calls may answer what they like, but none of them may be refused. */
    Scene(String... calls) {
        for (String call : calls) {
            change(new Line(call));
        }
    }

    private void change(Line line) {
        Check.due(line.text + " is taken", line.answerOn(grid).startsWith("throws."), false);
        Check.due(line.text + " is taken by the model", line.answerOn(plain).startsWith("throws."), false);
        remember(line);
    }

    private void remember(Line line) {
        history.add(line);
        picture = "";
    }

    /** A school of its own, by the same calls and some more. */
    Scene with(String... calls) {
        Scene more = new Scene();
        for (Line line : history) {
            more.change(line);
        }
        for (String call : calls) {
            more.change(new Line(call));
        }
        return more;
    }

    /** More calls on this school. */
    Scene then(String... calls) {
        for (String call : calls) {
            change(new Line(call));
        }
        return this;
    }

    Scene due(String call, Object want) {
        Line line = new Line(call);
        Check.due(told(line), line.answerOn(grid), String.valueOf(want));
        Check.due(told(line) + " of the model", line.answerOn(plain), String.valueOf(want));
        if (CHANGES.contains(line.name)) {
            remember(line);
        } else {
            changesNothing(line);
        }
        return this;
    }

    Scene refusesIndex(String... calls) {
        return refuses(IndexOutOfBoundsException.class, calls);
    }

    Scene refusesArgument(String... calls) {
        return refuses(IllegalArgumentException.class, calls);
    }

    Scene refusesState(String... calls) {
        return refuses(IllegalStateException.class, calls);
    }

    Scene refusesElement(String... calls) {
        return refuses(NoSuchElementException.class, calls);
    }

    Scene refusesSupport(String... calls) {
        return refuses(UnsupportedOperationException.class, calls);
    }

    Scene refusesArithmetic(String... calls) {
        return refuses(ArithmeticException.class, calls);
    }

    private Scene refuses(Class<? extends RuntimeException> want, String... calls) {
        for (String call : calls) {
            Line line = new Line(call);
            Check.refused(told(line), want, () -> line.on(grid));
            Check.due(told(line) + " of the model", line.answerOn(plain), "throws." + want.getSimpleName());
            changesNothing(line);
        }
        return this;
    }

    private void changesNothing(Line line) {
        if (picture.isEmpty()) {
            picture = Picture.of(history);
        }
        List<Line> more = new ArrayList<>(history);
        more.add(line);
        String after = Picture.of(more);
        Check.due(told(line) + " changes", Picture.difference(picture, after), "nothing");
    }

    /** The call behind the last ones of those that have brought the school about. */
    private String told(Line line) {
        StringBuilder text = new StringBuilder(history.size() > 4 ? ".. " : "");
        for (Line before : history.subList(Math.max(0, history.size() - 4), history.size())) {
            text.append(before.text).append(' ');
        }
        return text.append("| ").append(line.text).toString();
    }
}
