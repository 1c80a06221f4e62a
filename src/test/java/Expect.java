import java.util.NoSuchElementException;
import java.util.Objects;

/** Counts the answers that are not as due, and ends a test with exit code 1 if there was one. */
final class Expect {
    interface Call {
        Object answer();
    }

    private final String test;
    private int checked = 0;
    private int wrong = 0;

    Expect(String test) {
        this.test = test;
    }

    void same(String call, Object got, Object due) {
        checked++;
        if (!Objects.equals(got, due)) {
            wrong++;
            if (wrong <= 50) {
                System.out.println(test + ": " + call + " answered " + got + ", due is " + due);
            }
        }
    }

    /** The exception must be of this very class: one that the machine throws is never due. */
    void fails(String call, Class<? extends RuntimeException> due, Call made) {
        same(call, outcome(made), "throws." + due.getSimpleName());
    }

    void noSuch(String call, Call made) {
        fails(call, NoSuchElementException.class, made);
    }

    void argument(String call, Call made) {
        fails(call, IllegalArgumentException.class, made);
    }

    void state(String call, Call made) {
        fails(call, IllegalStateException.class, made);
    }

    /** The call must answer, whatever it answers. */
    void answers(String call, Call made) {
        Object got = outcome(made);
        same(call + ", which answered " + got, String.valueOf(got).startsWith("throws."), false);
    }

    /** A call's answer, or the name of what it throws. */
    static Object outcome(Call made) {
        try {
            return made.answer();
        } catch (RuntimeException thrown) {
            return "throws." + thrown.getClass().getSimpleName();
        }
    }

    void finish() {
        System.out.println(test + ": " + checked + " checked, " + wrong + " wrong");
        if (wrong != 0 || checked == 0) {
            System.exit(1);
        }
    }
}
