import java.util.NoSuchElementException;
import java.util.function.IntSupplier;

/** Counts answers that are as due, prints those that are not, and ends a test by its exit code. */
final class Check {
    /** What a call that threw NoSuchElementException counts as. */
    static final long NO_SUCH = Long.MIN_VALUE;

    private final String name;
    private int right;
    private int wrong;

    Check(String name) {
        this.name = name;
    }

    void due(String call, long want, long got) {
        if (got == want) {
            right++;
        } else {
            wrong++;
            System.out.println(name + ": " + call + " answered " + got + ", due is " + want);
        }
    }

    void due(String call, boolean want, boolean got) {
        due(call, want ? 1 : 0, got ? 1 : 0);
    }

    void due(String call, String want, String got) {
        due(call + " (" + got + " for " + want + ")", true, want.equals(got));
    }

    void noSuch(String call, IntSupplier answer) {
        due(call, NO_SUCH, answerOf(answer));
    }

    static long answerOf(IntSupplier answer) {
        try {
            return answer.getAsInt();
        } catch (NoSuchElementException thrown) {
            return NO_SUCH;
        }
    }

    int wrong() {
        return wrong;
    }

    void end() {
        System.out.println(name + ": " + right + " passed, " + wrong + " failed");
        if (wrong != 0) {
            System.exit(1);
        }
    }
}
