import java.util.NoSuchElementException;
import java.util.function.IntConsumer;

/** Counts what holds and tells what does not; the tests of the project share it. */
final class Check {
    static final Class<IllegalArgumentException> ARGUMENT = IllegalArgumentException.class;
    static final Class<IllegalStateException> STATE = IllegalStateException.class;
    static final Class<IndexOutOfBoundsException> INDEX = IndexOutOfBoundsException.class;
    static final Class<UnsupportedOperationException> UNSUPPORTED =
            UnsupportedOperationException.class;
    static final Class<NoSuchElementException> NO_SUCH = NoSuchElementException.class;
    static final Class<ArithmeticException> ARITHMETIC = ArithmeticException.class;

    private final String name;
    private String sentence = "";
    private int sentences;
    private int passed;
    private int failed;

    Check(String name) {
        this.name = name;
    }

    /** Names the promise and the sentence that the checks from here on belong to. */
    void of(String promiseAndSentence) {
        sentence = promiseAndSentence + ": ";
        sentences++;
    }

    void same(String what, long got, long want) {
        tell(got == want, what + " answered " + got + ", due is " + want);
    }

    void same(String what, char got, char want) {
        tell(got == want, what + " answered '" + got + "', due is '" + want + "'");
    }

    void same(String what, double got, double want) {
        tell(got == want, what + " answered " + got + ", due is " + want);
    }

    void same(String what, boolean got, boolean want) {
        tell(got == want, what + " answered " + got + ", due is " + want);
    }

    void same(String what, String got, String want) {
        int from = 0;
        while (from < got.length() && from < want.length()
                && got.charAt(from) == want.charAt(from)) {
            from++;
        }
        // Of long texts that differ, the part around the first difference tells enough.
        from = Math.max(0, from - 60);
        tell(got.equals(want), what + " answered " + cut(got, from) + ", due is " + cut(want, from));
    }

    private static String cut(String text, int from) {
        return text.substring(Math.min(from, text.length()), Math.min(from + 120, text.length()));
    }

    void fails(String what, Class<? extends RuntimeException> kind, Runnable call) {
        String got = thrownBy(call);
        tell(got.equals(kind.getSimpleName()),
                what + " threw " + got + ", due is " + kind.getSimpleName());
    }

    void works(String what, Runnable call) {
        String got = thrownBy(call);
        tell(got.equals("nothing"), what + " threw " + got + ", due is nothing");
    }

    /** Both ends of a range are taken; what is just outside of it, or far away, is refused. */
    void range(int least, int most, Class<? extends RuntimeException> kind, IntConsumer call) {
        works("" + least, () -> call.accept(least));
        works("" + most, () -> call.accept(most));
        outside(least, most, kind, call);
    }

    void outside(int least, int most, Class<? extends RuntimeException> kind, IntConsumer call) {
        for (int number : new int[] {least - 1, most + 1, Integer.MIN_VALUE, Integer.MAX_VALUE}) {
            fails("" + number, kind, () -> call.accept(number));
        }
    }

    /** No number is known yet, so that each is refused. */
    void none(Class<? extends RuntimeException> kind, IntConsumer call) {
        fails("0", kind, () -> call.accept(0));
        outside(0, 0, kind, call);
    }

    void close() {
        System.out.println(name + ": " + (sentences > 0 ? sentences + " sentences, " : "")
                + passed + " passed, " + failed + " failed");
        if (failed != 0) {
            System.exit(1);
        }
    }

    private static String thrownBy(Runnable call) {
        try {
            call.run();
        } catch (RuntimeException e) {
            return e.getClass().getSimpleName();
        }
        return "nothing";
    }

    private void tell(boolean isRight, String text) {
        if (isRight) {
            passed++;
        } else {
            failed++;
            System.out.println(name + ": " + sentence + text);
        }
    }
}
