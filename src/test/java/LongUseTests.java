import java.util.List;
import java.util.function.Function;

/** An object is used for at most 512 calls: the answers hold up to the 512th. */
final class LongUseTests {
    private static final int CALLS = 512;

    /** Edges.SOME makes so many calls. */
    private static final int CALLS_OF_SOME = 17;

    private static final class LastCall {
        final String name;
        final Function<DrillVault, Object> call;

        LastCall(String name, Function<DrillVault, Object> call) {
            this.name = name;
            this.call = call;
        }
    }

    /** Each method once, with an answer or an exception. */
    private static final List<LastCall> LAST_CALLS = List.of(
            new LastCall("2 change", vault -> vault.change(9, 5)),
            new LastCall("2 change refused", vault -> vault.change(9, 100)),
            new LastCall("3 pass", vault -> vault.pass(30)),
            new LastCall("3 pass refused", vault -> vault.pass(31)),
            new LastCall("4 full", DrillVault::full),
            new LastCall("5 increment", DrillVault::increment),
            new LastCall("6 damage", vault -> vault.damage(0)),
            new LastCall("7 drill", vault -> vault.drill(2)),
            new LastCall("7 drill that fails", vault -> vault.drill(4)),
            new LastCall("8 setRules", vault -> vault.setRules(2, 1, 0)),
            new LastCall("9 thin", DrillVault::thin),
            new LastCall("10 day", DrillVault::day),
            new LastCall("11 copies", DrillVault::copies),
            new LastCall("12 space", DrillVault::space),
            new LastCall("13 dayOf", vault -> vault.dayOf(4)),
            new LastCall("14 baseOf", vault -> vault.baseOf(4)),
            new LastCall("15 keeps", vault -> vault.keeps(2)),
            new LastCall("15 keeps refused", vault -> vault.keeps(5)),
            new LastCall("16 isPromised", vault -> vault.isPromised(2)),
            new LastCall("17 isNeeded", vault -> vault.isNeeded(0)),
            new LastCall("18 isProved", vault -> vault.isProved(1)),
            new LastCall("19 restore", vault -> vault.restore(4, 9)),
            new LastCall("20 restoreByChanges", vault -> vault.restoreByChanges(4, 9)),
            new LastCall("21 onCall", vault -> vault.onCall(20)),
            new LastCall("22 swap", vault -> vault.swap(10, 12)),
            new LastCall("22 swap refused", vault -> vault.swap(10, 14)),
            new LastCall("23 alarm", vault -> vault.alarm(4)));

    private LongUseTests() {
    }

    static void addTo(Tests tests) {
        theLastCall(tests);
        oneMethodAllTheTime(tests);
        refusedAllTheTime(tests);
        tests.test("one object from empty to full in 512 calls", LongUseTests::fillAndAsk);
    }

    private static void theLastCall(Tests tests) {
        for (LastCall last : LAST_CALLS) {
            tests.test(last.name + " as the 512th call", () -> {
                String due = Looks.outcome(() -> last.call.apply(Tests.vault(Edges.SOME)));
                DrillVault vault = Tests.vault(Edges.SOME);
                for (int call = CALLS_OF_SOME + 1; call < CALLS; call++) {
                    askSomething(vault, call);
                }
                Tests.due("answer", Looks.outcome(() -> last.call.apply(vault)), due);
            });
        }
    }

    private static void askSomething(DrillVault vault, int call) {
        Looks.outcome(() -> {
            switch (call % 6) {
                case 0:
                    return vault.isPromised(call % 5);
                case 1:
                    return vault.isNeeded(call % 5);
                case 2:
                    return vault.restore(call % 6, call % 10);
                case 3:
                    return vault.restoreByChanges(call % 5, call % 11);
                case 4:
                    return vault.alarm(call % 33);
                default:
                    return vault.change(10, 0);
            }
        });
    }

    private static void oneMethodAllTheTime(Tests tests) {
        tests.test("2 change, and 212 of them refused", () -> {
            DrillVault vault = new DrillVault();
            for (int call = 1; call <= 300; call++) {
                Tests.due("change " + call, vault.change(7, call % 100), (call - 1) % 100);
            }
            for (int call = 301; call <= CALLS; call++) {
                Tests.dueThrow("change " + call, Edges.STATE, () -> vault.change(7, 1));
            }
        });
        tests.test("3 pass, 360 days one by one, and 152 refused", () -> {
            DrillVault vault = new DrillVault();
            for (int call = 1; call <= 360; call++) {
                Tests.due("pass", vault.pass(1), call);
            }
            for (int call = 361; call <= CALLS; call++) {
                Tests.dueThrow("pass " + call, Edges.STATE, () -> vault.pass(1));
            }
        });
        tests.test("4 full, and 452 of them refused", () -> {
            DrillVault vault = new DrillVault();
            for (int call = 1; call <= CALLS; call++) {
                String want = call <= 60 ? String.valueOf(call - 1) : "throws java.lang.IllegalStateException";
                Tests.due("full " + call, Looks.outcome(vault::full), want);
            }
        });
        tests.test("7 drill and 6 damage", () -> {
            DrillVault vault = new DrillVault();
            vault.full();
            vault.increment();
            for (int call = 3; call <= CALLS / 2; call++) {
                Tests.due("drill", vault.drill(1), 2);
            }
            for (int call = CALLS / 2 + 1; call <= CALLS; call++) {
                Tests.due("damage or drill", call % 2 == 1 ? vault.damage(0) : vault.drill(1), call % 2 == 1 ? 1 : -1);
            }
        });
        tests.test("8 setRules and 9 thin", () -> {
            DrillVault vault = GenerationTests.fullsOn(0, 0, 0);
            for (int call = 7; call <= CALLS; call++) {
                int days = call % 31;
                Tests.due("answer", call % 2 == 0 ? vault.thin() : vault.setRules(days, 0, 0),
                        call % 2 == 0 || days == 0 ? 0 : 1);
            }
        });
        tests.test("22 swap there and back", () -> {
            DrillVault vault = new DrillVault();
            for (int call = 1; call <= CALLS; call++) {
                Tests.due("swap " + call, vault.swap(0, 363), call % 2 == 1 ? 3 : 0);
            }
        });
    }

    private static void refusedAllTheTime(Tests tests) {
        tests.test("511 refused calls, and one that is not", () -> {
            DrillVault vault = new DrillVault();
            for (int call = 1; call < CALLS; call++) {
                Tests.dueThrow("increment " + call, Edges.STATE, vault::increment);
            }
            Tests.due("full", vault.full(), 0);
        });
        tests.test("511 refused calls of many kinds, and one that is not", () -> {
            DrillVault vault = new DrillVault();
            for (int round = 1; round <= CALLS / 3; round++) {
                int wrong = round;
                Tests.dueThrow("change", Edges.OUT, () -> vault.change(9 + wrong, 0));
                Tests.dueThrow("swap", Edges.ARGUMENT, () -> vault.swap(wrong, wrong));
                Tests.dueThrow("drill", Edges.OUT, () -> vault.drill(wrong));
            }
            Tests.dueThrow("alarm", Edges.ARGUMENT, () -> vault.alarm(-1));
            Tests.due("change", vault.change(9, 9), 0);
        });
    }

    /** 300 changes, 60 copies, 12 passes, 60 drills, 60 looks at copies, 20 others: each with its answer. */
    private static void fillAndAsk() {
        DrillVault vault = new DrillVault();
        int calls = 0;
        int[] contents = new int[10];
        for (int copy = 0; copy < 60; copy++) {
            for (int i = 0; i < 5; i++) {
                int file = (copy + i) % 10;
                Tests.due("change " + ++calls, vault.change(file, copy + i), contents[file]);
                contents[file] = copy + i;
            }
            Tests.due("copy " + ++calls, copy == 0 ? vault.full() : vault.increment(), copy);
            if (copy % 5 == 4) {
                Tests.due("pass " + ++calls, vault.pass(30), 30 * (copy / 5 + 1));
            }
        }
        for (int copy = 0; copy < 60; copy++) {
            Tests.due("drill " + ++calls, vault.drill(copy), copy + 1);
            Tests.due("dayOf " + ++calls, vault.dayOf(copy), 30 * (copy / 5));
        }
        for (int file = 0; file <= 9; file++) {
            Tests.due("restore " + ++calls, vault.restore(59, file), contents[file]);
        }
        calls += 9;
        fillAndAskLast(vault);
        Tests.due("thin, call " + ++calls, vault.thin(), 0);
        Tests.due("calls", calls, CALLS);
    }

    private static void fillAndAskLast(DrillVault vault) {
        Tests.dueThrow("change", Edges.STATE, () -> vault.change(0, 0));
        Tests.dueThrow("full", Edges.STATE, vault::full);
        Tests.dueThrow("increment", Edges.STATE, vault::increment);
        Tests.dueThrow("pass", Edges.STATE, () -> vault.pass(1));
        Tests.due("space", vault.space(), 11 + 59 * 6);
        Tests.due("setRules", vault.setRules(30, 20, 12), 12);
        Tests.due("swap", vault.swap(360, 362), 2);
        Tests.due("alarm", vault.alarm(1), 0);
        Tests.due("damage of the first", vault.damage(0), 12);
    }
}
