import java.util.Objects;

/** What the tests by hand share: it compares answers, tells the wrong ones, and ends the run. */
final class Check {
    private static int calls;
    private static int wrong;

    interface Call {
        Object answer();
    }

    private Check() {
    }

    static void due(String call, Object got, Object want) {
        calls++;
        if (!Objects.equals(got, want)) {
            tell(call + " answered " + got + ", due is " + want);
        }
    }

    /** The call must throw exactly an exception of this class, written by the program itself. */
    static void refused(String call, Class<? extends RuntimeException> want, Call it) {
        calls++;
        try {
            tell(call + " answered " + it.answer() + ", due is throws." + want.getSimpleName());
        } catch (RuntimeException e) {
            if (e.getClass() != want) {
                tell(call + " threw " + e + ", due is throws." + want.getSimpleName());
            } else if (!"throw".equals(thrower(e))) {
                tell(call + " let the machine throw " + e);
            }
        }
    }

    /** The machine and the library throw from other code, or with texts of their own. */
    private static String thrower(RuntimeException e) {
        StackTraceElement[] trace = e.getStackTrace();
        boolean ours = trace.length > 0 && trace[0].getClassName().startsWith("Termgrid");
        String text = e.getMessage() == null ? "" : e.getMessage();
        return ours && !text.contains("Index ") && !text.contains("/ by zero") ? "throw" : "machine";
    }

    private static void tell(String text) {
        wrong++;
        System.out.println(text);
    }

    static void end() {
        System.out.println(wrong == 0 ? calls + " answers are as due" : wrong + " answers are not as due");
        if (wrong != 0) {
            System.exit(1);
        }
    }
}
