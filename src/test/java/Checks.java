import java.util.NoSuchElementException;
import java.util.Objects;

/** Counts the answers that are not due, and tells each of them. */
final class Checks {
    static final Class<?> INDEX = IndexOutOfBoundsException.class;
    static final Class<?> ARGUMENT = IllegalArgumentException.class;
    static final Class<?> STATE = IllegalStateException.class;
    static final Class<?> UNSUPPORTED = UnsupportedOperationException.class;
    static final Class<?> NO_ELEMENT = NoSuchElementException.class;
    static final Class<?> ARITHMETIC = ArithmeticException.class;

    /** Numbers that any parameter may be called with by mistake. */
    static final int[] FAR_OFF = {-1, Integer.MIN_VALUE, Integer.MAX_VALUE, Integer.MIN_VALUE + 1, 1 << 20};

    interface Call {
        Object answer();
    }

    private final String test;
    private int asked = 0;
    private int wrong = 0;

    Checks(String test) {
        this.test = test;
    }

    void due(int promise, String call, Object want, Object got) {
        asked++;
        if (!Objects.equals(want, got)) {
            wrong++;
            System.out.println(test + ", promise " + promise + ": " + call + " answered " + got + ", due is " + want);
        }
    }

    /** The exception has to be of exactly this class: the machine's own ones are of classes below it. */
    void thrown(int promise, String call, Class<?> want, Call made) {
        due(promise, call + " throws", want, thrownBy(made));
    }

    private static Class<?> thrownBy(Call made) {
        try {
            made.answer();
            return null;
        } catch (RuntimeException e) {
            return e.getClass();
        }
    }

    /** Appends the characters of a text to the command text. */
    static void type(IceBells bells, String text) {
        for (char c : text.toCharArray()) {
            bells.append(c);
        }
    }

    static int runText(IceBells bells, String text) {
        type(bells, text);
        return bells.run();
    }

    static String line(IceBells bells, int length) {
        StringBuilder read = new StringBuilder();
        for (int i = 0; i < length; i++) {
            read.append(bells.lineAt(i));
        }
        return read.toString();
    }

    void finish() {
        System.out.println(test + ": " + asked + " answers, " + wrong + " wrong");
        if (wrong != 0) {
            System.exit(1);
        }
    }
}
