import java.util.function.Consumer;

/** Runs named tests, counts them, and has the checks that the tests are made of. */
final class Tests {
    /** Deeds that a test does on a vault. */
    interface Deed extends Consumer<DrillVault> {
    }

    private int passed;
    private int failed;

    void test(String name, Runnable body) {
        try {
            body.run();
            passed++;
        } catch (Throwable wrong) {
            failed++;
            System.out.println("FAILED " + name + ": " + wrong);
        }
    }

    int failed() {
        return failed;
    }

    String summary() {
        return passed + " passed, " + failed + " failed";
    }

    static void due(String what, Object got, Object want) {
        if (!want.equals(got)) {
            throw new AssertionError(what + " answered " + got + ", due is " + want);
        }
    }

    /** The class must be the very one: the machine's own exceptions are classes below these. */
    static void dueThrow(String what, Class<? extends Exception> want, Runnable call) {
        due(what, Looks.outcome(() -> {
            call.run();
            return "no exception";
        }), "throws " + want.getName());
    }

    static DrillVault vault(Deed... deeds) {
        DrillVault vault = new DrillVault();
        for (Deed deed : deeds) {
            deed.accept(vault);
        }
        return vault;
    }

    /** Looks that the call throws what is due and that the vault answers as if it had not been made. */
    static void refused(String what, Class<? extends Exception> want, Deed build, Deed call) {
        dueThrow(what, want, () -> call.accept(vault(build)));
        for (Looks.Look look : Looks.ALL) {
            String without = look.at(vault(build));
            DrillVault refusing = vault(build);
            Looks.outcome(() -> {
                call.accept(refusing);
                return "";
            });
            due(what + ", what the vault answers afterwards", look.at(refusing), without);
        }
    }

    /** Looks that a call which only tells something changes nothing. */
    static void changesNothing(String what, Deed build, Deed call) {
        for (Looks.Look look : Looks.ALL) {
            String without = look.at(vault(build));
            due(what + ", what the vault answers afterwards", look.at(vault(build, call)), without);
        }
    }
}
