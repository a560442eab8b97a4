import java.lang.reflect.InvocationTargetException;
import java.lang.reflect.Method;
import java.util.HashMap;
import java.util.Map;

/** One call, written as in the document: "place(0, 29, 1)". MIN and MAX are the least and the greatest int. */
final class Line {
    private static final Map<String, Method> METHODS = new HashMap<>();

    final String text;
    final String name;
    private final Object[] arguments;

    Line(String text) {
        this.text = text;
        this.name = text.substring(0, text.indexOf('('));
        String inside = text.substring(text.indexOf('(') + 1, text.length() - 1);
        String[] words = inside.isEmpty() ? new String[0] : inside.split(", *");
        this.arguments = new Object[words.length];
        for (int i = 0; i < words.length; i++) {
            arguments[i] = number(words[i]);
        }
    }

    private static int number(String word) {
        return switch (word) {
            case "MIN" -> Integer.MIN_VALUE;
            case "MAX" -> Integer.MAX_VALUE;
            default -> Integer.parseInt(word);
        };
    }

    /** What a Termgrid or a PlainSchool answers; what it throws is thrown. */
    Object on(Object school) {
        try {
            return METHODS.computeIfAbsent(school.getClass().getName() + "." + name, key -> methodOf(school))
                    .invoke(school, arguments);
        } catch (InvocationTargetException e) {
            if (e.getCause() instanceof RuntimeException thrown) {
                throw thrown;
            }
            throw new AssertionError(text, e.getCause());
        } catch (IllegalAccessException e) {
            throw new AssertionError(text, e);
        }
    }

    private Method methodOf(Object school) {
        for (Method method : school.getClass().getDeclaredMethods()) {
            boolean isAsked = method.getName().equals(name) && method.getParameterCount() == arguments.length;
            if (isAsked && java.util.Arrays.stream(method.getParameterTypes()).allMatch(type -> type == int.class)) {
                return method;
            }
        }
        throw new AssertionError("there is no " + text);
    }

    /** The answer as a text, or "throws." with the name of the exception. */
    String answerOn(Object school) {
        try {
            return String.valueOf(on(school));
        } catch (RuntimeException e) {
            return "throws." + e.getClass().getSimpleName();
        }
    }
}
