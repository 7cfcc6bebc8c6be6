/** Counts what holds and tells what does not; the tests of the project share it. */
final class Check {
    private final String name;
    private int passed;
    private int failed;

    Check(String name) {
        this.name = name;
    }

    void same(String what, long got, long want) {
        tell(got == want, what + " answered " + got + ", due is " + want);
    }

    void same(String what, char got, char want) {
        tell(got == want, what + " answered '" + got + "', due is '" + want + "'");
    }

    void same(String what, double got, double want) {
        tell(got == want, what + " answered " + got + ", due is " + want);
    }

    void same(String what, boolean got, boolean want) {
        tell(got == want, what + " answered " + got + ", due is " + want);
    }

    void same(String what, String got, String want) {
        tell(got.equals(want), what + " answered " + got + ", due is " + want);
    }

    void fails(String what, Class<? extends RuntimeException> kind, Runnable call) {
        String got = "nothing";
        try {
            call.run();
        } catch (RuntimeException e) {
            got = e.getClass().getSimpleName();
        }
        tell(got.equals(kind.getSimpleName()),
                what + " threw " + got + ", due is " + kind.getSimpleName());
    }

    void close() {
        System.out.println(name + ": " + passed + " passed, " + failed + " failed");
        if (failed != 0) {
            System.exit(1);
        }
    }

    private void tell(boolean isRight, String text) {
        if (isRight) {
            passed++;
        } else {
            failed++;
            System.out.println(name + ": " + text);
        }
    }
}
