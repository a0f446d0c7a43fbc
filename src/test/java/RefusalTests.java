import java.util.List;

/** Of the section Exceptions: which line decides, and that a call that throws changes nothing. */
final class RefusalTests {
    private static final Tests.Deed ALL_CHANGES = vault -> Edges.changeTimes(vault, 300);
    private static final Tests.Deed LAST_DAY = vault -> Edges.passTo(vault, 360);

    /** One call for each line of each throws clause, where there is something to change. */
    private static final List<Tests.Deed> REFUSED_OF_SOME = List.of(
            vault -> vault.change(10, 5),
            vault -> vault.change(5, 100),
            vault -> vault.pass(31),
            vault -> vault.damage(5),
            vault -> vault.drill(-1),
            vault -> vault.setRules(31, 0, 0),
            vault -> vault.setRules(0, 21, 0),
            vault -> vault.setRules(0, 0, 13),
            vault -> vault.dayOf(5),
            vault -> vault.baseOf(5),
            vault -> vault.keeps(5),
            vault -> vault.isPromised(5),
            vault -> vault.isNeeded(5),
            vault -> vault.isProved(5),
            vault -> vault.restore(5, 0),
            vault -> vault.restore(0, 10),
            vault -> vault.restoreByChanges(5, 0),
            vault -> vault.restoreByChanges(0, 10),
            vault -> vault.onCall(365),
            vault -> vault.swap(7, 20),
            vault -> vault.swap(20, 20),
            vault -> vault.swap(40, 44),
            vault -> vault.alarm(32));

    private static final List<Tests.Deed> REFUSED_OF_FULL = List.of(
            vault -> vault.change(0, 0),
            vault -> vault.pass(1),
            DrillVault::full,
            DrillVault::increment);

    private RefusalTests() {
    }

    static void addTo(Tests tests) {
        theFirstLineDecides(tests);
        nothingIsChanged(tests);
    }

    private static void theFirstLineDecides(Tests tests) {
        tests.test("2 the first line decides: file, content, 300 changes", () -> {
            for (int file : Edges.outside(0, 9)) {
                for (int content : Edges.outside(0, 99)) {
                    Tests.dueThrow("file and content", Edges.OUT, () -> new DrillVault().change(file, content));
                }
            }
            Tests.refused("file and content", Edges.OUT, Edges.SOME, vault -> vault.change(10, 100));
            Tests.refused("file and 300 changes", Edges.OUT, ALL_CHANGES, vault -> vault.change(10, 5));
            Tests.refused("content and 300 changes", Edges.ARGUMENT, ALL_CHANGES, vault -> vault.change(0, 100));
            Tests.refused("content and 300 changes", Edges.ARGUMENT, ALL_CHANGES, vault -> vault.change(9, -1));
            Tests.refused("all three", Edges.OUT, ALL_CHANGES, vault -> vault.change(-1, -1));
        });
        tests.test("3 the first line decides: days out of range, the day above 360", () -> {
            Edges.refused("pass on 360", Edges.ARGUMENT, LAST_DAY, DrillVault::pass, Edges.outside(1, 30));
            Edges.refused("pass on 331", Edges.ARGUMENT, vault -> Edges.passTo(vault, 331), DrillVault::pass, 31, 360);
        });
        tests.test("22 the first line decides: days out of range or the same, no rest", () -> {
            Tests.Deed now10 = vault -> vault.pass(10);
            // 8 has 3 and 9 has 4: without the first line these would be refused for want of rest.
            Tests.refused("9 would get 3", Edges.ARGUMENT, now10, vault -> vault.swap(9, 13));
            Tests.refused("9 would get 3", Edges.ARGUMENT, now10, vault -> vault.swap(13, 9));
            Tests.refused("10 would get 4", Edges.ARGUMENT, now10, vault -> vault.swap(10, 9));
            Tests.refused("364 would get 0 of 365", Edges.ARGUMENT, now10, vault -> vault.swap(364, 365));
        });
        tests.test("8 one line: also if all three rules are out of range", () ->
                Tests.refused("setRules", Edges.ARGUMENT, Edges.SOME, vault -> vault.setRules(31, 21, 13)));
        tests.test("19, 20 one line: also if neither copy nor file is there", () -> {
            Tests.refused("restore", Edges.OUT, Edges.SOME, vault -> vault.restore(5, 10));
            Tests.refused("restoreByChanges", Edges.OUT, Edges.SOME, vault -> vault.restoreByChanges(5, 10));
        });
    }

    private static void nothingIsChanged(Tests tests) {
        tests.test("\"a call that throws changes nothing\": one after another", () -> {
            Tests.due("calls", throwing(REFUSED_OF_SOME, Tests.vault(Edges.SOME)), REFUSED_OF_SOME.size());
            Tests.changesNothing("all of them", Edges.SOME, vault -> throwing(REFUSED_OF_SOME, vault));
        });
        tests.test("\"a call that throws changes nothing\": of a full object", () -> {
            Tests.due("calls", throwing(REFUSED_OF_FULL, Tests.vault(Edges.FULL)), REFUSED_OF_FULL.size());
            Tests.changesNothing("all of them", Edges.FULL, vault -> throwing(REFUSED_OF_FULL, vault));
        });
        tests.test("\"a call that throws changes nothing\": of a new object", () -> {
            List<Tests.Deed> calls = List.of(DrillVault::increment, vault -> vault.damage(0), vault -> vault.drill(0),
                    vault -> vault.restore(0, 0), vault -> vault.swap(0, 6), vault -> vault.swap(0, 0));
            Tests.due("calls", throwing(calls, new DrillVault()), calls.size());
            Tests.changesNothing("all of them", Edges.EMPTY, vault -> throwing(calls, vault));
        });
        tests.test("\"a call that throws changes nothing\": of a thinned store", () -> {
            List<Tests.Deed> calls = List.of(vault -> vault.damage(0), vault -> vault.drill(1), vault -> vault.dayOf(0),
                    vault -> vault.baseOf(1), vault -> vault.keeps(0), vault -> vault.isPromised(1),
                    vault -> vault.isNeeded(0), vault -> vault.isProved(1), vault -> vault.restore(0, 0),
                    vault -> vault.restoreByChanges(1, 0));
            Tests.due("calls", throwing(calls, Tests.vault(Edges.THINNED)), calls.size());
            Tests.changesNothing("all of them", Edges.THINNED, vault -> throwing(calls, vault));
        });
    }

    /** Makes the calls and counts those that throw. */
    private static int throwing(List<Tests.Deed> calls, DrillVault vault) {
        int thrown = 0;
        for (Tests.Deed call : calls) {
            String answer = Looks.outcome(() -> {
                call.accept(vault);
                return "answers";
            });
            thrown += answer.startsWith("throws") ? 1 : 0;
        }
        return thrown;
    }
}
