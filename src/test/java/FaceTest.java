import java.io.IOException;
import java.lang.reflect.Constructor;
import java.lang.reflect.Field;
import java.lang.reflect.Method;
import java.lang.reflect.Modifier;
import java.nio.file.Files;
import java.nio.file.Path;
import java.util.ArrayList;
import java.util.Arrays;
import java.util.List;
import java.util.TreeSet;
import java.util.regex.Matcher;
import java.util.regex.Pattern;

/** The face of the class is that of ../shared/DOC.md, and its form keeps to ../shared/LANGUAGE.md as far as can be seen. */
public final class FaceTest {
    private static final int LONGEST_METHOD = 60;
    private static final Pattern NOT_IN_THE_LANGUAGE = Pattern.compile(
            "->|::|\\btry\\b|\\bcatch\\b|\\bfinally\\b|\\bassert\\b|\\bsynchronized\\b|\\binstanceof\\b|\\bSystem\\.(?!arraycopy)"
                    + "|[+] *\"|\" *[+]|[^\\x20-\\x7e\\n]");

    public static void main(String[] args) throws IOException {
        face();
        members(Termgrid.class, true);
        for (Class<?> inside : Termgrid.class.getDeclaredClasses()) {
            int is = inside.getModifiers();
            Check.due(inside + " is static", Modifier.isStatic(is), true);
            Check.due(inside + " is hidden", Modifier.isPublic(is) || Modifier.isProtected(is), false);
            members(inside, false);
        }
        Check.due("at most twelve classes", Termgrid.class.getDeclaredClasses().length < 12, true);
        text();
        Check.end();
    }

    /** Each line of the document's face, and each public member of the class, as the same text. */
    private static void face() throws IOException {
        String document = Files.readString(Path.of("../shared/DOC.md"));
        int from = document.indexOf("public final class Termgrid {");
        String face = document.substring(from, document.indexOf("```", from));
        TreeSet<String> want = new TreeSet<>();
        Matcher line = Pattern.compile("    public (.*?)(\\(.*?\\))( throws (.*?))?;").matcher(face);
        while (line.find()) {
            String types = line.group(2).replaceAll(" \\w+([,)])", "$1");
            want.add(line.group(1) + types + (line.group(4) == null ? "" : " throws " + line.group(4)));
        }
        TreeSet<String> got = new TreeSet<>();
        for (Method method : Termgrid.class.getDeclaredMethods()) {
            if (!Modifier.isPrivate(method.getModifiers())) {
                Check.due(method + " is public alone", method.getModifiers(), Modifier.PUBLIC);
                got.add(method.getReturnType().getSimpleName() + " " + method.getName()
                        + names("(", method.getParameterTypes(), ")") + throwsOf(method.getExceptionTypes()));
            }
        }
        for (Constructor<?> constructor : Termgrid.class.getDeclaredConstructors()) {
            Check.due(constructor + " is public", constructor.getModifiers(), Modifier.PUBLIC);
            got.add("Termgrid" + names("(", constructor.getParameterTypes(), ")")
                    + throwsOf(constructor.getExceptionTypes()));
        }
        Check.due("the number of promises", want.size(), 45);
        Check.due("the face", got, want);
        Check.due("the class", Termgrid.class.getModifiers(), Modifier.PUBLIC | Modifier.FINAL);
    }

    private static String names(String begin, Class<?>[] types, String end) {
        List<String> names = new ArrayList<>();
        for (Class<?> type : types) {
            names.add(type.getSimpleName());
        }
        return begin + String.join(", ", names) + end;
    }

    private static String throwsOf(Class<?>[] types) {
        return types.length == 0 ? "" : names(" throws ", types, "");
    }

    private static void members(Class<?> type, boolean isOuter) {
        TreeSet<String> publicNames = new TreeSet<>();
        for (Method method : Termgrid.class.getDeclaredMethods()) {
            if (Modifier.isPublic(method.getModifiers())) {
                publicNames.add(method.getName());
            }
        }
        int fields = 0;
        for (Field field : type.getDeclaredFields()) {
            int is = field.getModifiers();
            Check.due(field + " is private", !isOuter || Modifier.isPrivate(is), true);
            Check.due(field + " is final if static", !Modifier.isStatic(is) || Modifier.isFinal(is), true);
            Check.due(field + " is an int or a text if static",
                    !Modifier.isStatic(is) || field.getType() == int.class || field.getType() == String.class, true);
            fields += Modifier.isStatic(is) ? 0 : 1;
        }
        Check.due(type + " has at most twenty fields", fields <= 20, true);
        for (Method method : type.getDeclaredMethods()) {
            Check.due(method + " has at most seven parameters", method.getParameterCount() <= 7, true);
            boolean isHidden = !isOuter || Modifier.isPrivate(method.getModifiers());
            Check.due(method + " has a name of its own", isHidden && publicNames.contains(method.getName()), false);
        }
    }

    private static void text() throws IOException {
        String text = Files.readString(Path.of("src/main/java/Termgrid.java"));
        List<String> imports = new ArrayList<>();
        int begin = 0;
        String[] lines = text.split("\n");
        for (int i = 0; i < lines.length; i++) {
            if (lines[i].startsWith("import ")) {
                imports.add(lines[i]);
            }
            if (lines[i].matches("( {4}| {8})[a-zA-Z].*\\).*\\{|( {4}| {8})[a-zA-Z][^;=]*\\([^;]*,?")) {
                begin = i;
            }
            if (lines[i].equals("    }") || lines[i].equals("        }")) {
                Check.due("line " + (begin + 1) + " begins a short method", i - begin < LONGEST_METHOD, true);
            }
            String code = lines[i].replaceAll("^ *(/?\\*|//).*", "");
            Matcher odd = NOT_IN_THE_LANGUAGE.matcher(code);
            Check.due("line " + (i + 1) + " keeps to the language", odd.find() ? odd.group() : "", "");
        }
        Check.due("imports", imports, Arrays.asList("import java.util.ArrayList;", "import java.util.Arrays;",
                "import java.util.NoSuchElementException;"));
    }
}
