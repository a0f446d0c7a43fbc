/** The edges of promises 10 to 15 and 18 to 20, and the sentence 'no such copy' of all that want one. */
final class TellingEdgeTests {
    private TellingEdgeTests() {
    }

    static void addTo(Tests tests) {
        for (Edges.OfCopy each : Edges.OF_COPIES) {
            noSuchCopy(tests, each);
        }
        onANewObject(tests);
        onAFullStore(tests);
        afterThinning(tests);
        ofCopies(tests);
        files(tests);
        damagedOrNot(tests);
        allChangesAhead(tests);
    }

    private static void noSuchCopy(Tests tests, Edges.OfCopy each) {
        tests.test(each.name + " \"if there is no such copy\"", () -> {
            Edges.refused(each.name, Edges.OUT, Edges.EMPTY, each.method, 0, 59);
            Edges.refused(each.name, Edges.OUT, Edges.EMPTY, each.method, Edges.outside(0, 59));
            Edges.refused(each.name, Edges.OUT, Edges.SOME, each.method, Edges.outside(0, 4));
            Edges.refused(each.name, Edges.OUT, Edges.SOME, each.method, 59, 60);
            Edges.refused(each.name, Edges.OUT, Edges.FULL, each.method, Edges.outside(0, 59));
            Edges.refused(each.name, Edges.OUT, Edges.FULL, each.method, 61);
        });
        tests.test(each.name + " of the first and the last copy", () -> {
            answers(each, Edges.SOME, 0, 1, 4);
            answers(each, Edges.FULL, 0, 1, 58, 59);
            answers(each, Edges.THINNED, 2);
            answers(each, Edges.THINNED_OF_60, 59);
        });
        tests.test(each.name + " of a copy that was taken off \"(one that was taken off is none)\"", () -> {
            Edges.refused(each.name, Edges.OUT, Edges.THINNED, each.method, 0, 1, 3);
            Edges.refused(each.name, Edges.OUT, Edges.THINNED_OF_60, each.method, 0, 1, 58, 60);
        });
    }

    private static void answers(Edges.OfCopy each, Tests.Deed state, int... copies) {
        for (int copy : copies) {
            String answer = Looks.outcome(() -> each.method.call(Tests.vault(state), copy));
            Tests.due(each.name + " of " + copy + " throws", answer.startsWith("throws"), false);
        }
    }

    private static void onANewObject(Tests tests) {
        tests.test("10 day on a new object", () -> Tests.due("day", new DrillVault().day(), 0));
        tests.test("11 copies on a new object", () -> Tests.due("copies", new DrillVault().copies(), 0));
        tests.test("12 space on a new object", () -> Tests.due("space", new DrillVault().space(), 0));
        tests.test("10 to 12 after refused calls on a new object", () -> {
            DrillVault vault = new DrillVault();
            Tests.dueThrow("increment", Edges.STATE, vault::increment);
            Tests.dueThrow("pass", Edges.ARGUMENT, () -> vault.pass(31));
            Tests.due("day", vault.day(), 0);
            Tests.due("copies", vault.copies(), 0);
            Tests.due("space", vault.space(), 0);
        });
    }

    private static void onAFullStore(Tests tests) {
        tests.test("10 day on a full store", () -> Tests.due("day", Tests.vault(Edges.FULL).day(), 360));
        tests.test("11 copies on a full store", () -> {
            Tests.due("copies", Tests.vault(Edges.FULL).copies(), 60);
            DrillVault vault = new DrillVault();
            for (int copy = 0; copy < 60; copy++) {
                Tests.due("copies", vault.copies(), copy);
                vault.full();
            }
            Tests.due("copies", vault.copies(), 60);
        });
        tests.test("12 space on a full store, the greatest and the least", () -> {
            Tests.due("space", Tests.vault(Edges.FULL).space(), 12 * (11 + 4 * 6));
            DrillVault fulls = Tests.vault(vault -> Edges.fullTimes(vault, 60));
            Tests.due("of full copies", fulls.space(), 60 * 11);
            DrillVault increments = new DrillVault();
            increments.full();
            for (int copy = 1; copy < 60; copy++) {
                increments.increment();
                Tests.due("space", increments.space(), 11 + copy);
            }
        });
    }

    private static void afterThinning(Tests tests) {
        tests.test("10 day after thinning", () -> {
            Tests.due("day", Tests.vault(Edges.THINNED).day(), 1);
            Tests.due("day", Tests.vault(Edges.THINNED_OF_60).day(), 30);
        });
        tests.test("11 copies after thinning", () -> {
            Tests.due("copies", Tests.vault(Edges.THINNED).copies(), 1);
            Tests.due("copies", Tests.vault(Edges.THINNED_OF_60).copies(), 1);
            DrillVault vault = Tests.vault(Edges.THINNED);
            vault.increment();
            Tests.due("copies, one made since", vault.copies(), 2);
        });
        tests.test("12 space after thinning", () -> {
            Tests.due("space", Tests.vault(Edges.THINNED).space(), 11);
            Tests.due("space", Tests.vault(Edges.THINNED_OF_60).space(), 11);
            DrillVault vault = Tests.vault(Edges.FULL);
            vault.setRules(0, 0, 0);
            int before = vault.space();
            Tests.due("taken back and left", vault.thin() + vault.space(), before);
            Tests.due("two chains are left", vault.space(), 2 * (11 + 4 * 6));
        });
    }

    private static void ofCopies(Tests tests) {
        tests.test("13 dayOf of the first day and the last", () -> {
            DrillVault vault = GenerationTests.fullsOn(0, 0, 1, 359, 360, 360);
            int[] want = {0, 0, 1, 359, 360, 360};
            for (int copy = 0; copy < want.length; copy++) {
                Tests.due("dayOf " + copy, vault.dayOf(copy), want[copy]);
            }
        });
        tests.test("14 \"NONE if it is a full one\"", () -> {
            DrillVault vault = Tests.vault(Edges.FULL);
            for (int copy = 0; copy < 60; copy++) {
                Tests.due("baseOf " + copy, vault.baseOf(copy), copy % 5 == 0 ? DrillVault.NONE : copy - 1);
            }
            Tests.due("of a store of one", Tests.vault(Edges.THINNED).baseOf(2), DrillVault.NONE);
        });
        tests.test("15 keeps, from none to all files", () -> {
            DrillVault vault = new DrillVault();
            vault.full();
            for (int files = 0; files <= 10; files++) {
                for (int file = 0; file < files; file++) {
                    vault.change(file, 5);
                    vault.change(file, 6);
                }
                Tests.due("keeps " + files, vault.keeps(vault.increment()), files);
            }
            Tests.due("keeps of the full copy", vault.keeps(0), 10);
            Tests.due("space", vault.space(), 11 + 11 + 55);
        });
        tests.test("18 isProved of a copy just made, and after thinning", () -> {
            DrillVault vault = new DrillVault();
            Tests.due("full", vault.isProved(vault.full()), false);
            vault.drill(0);
            Tests.due("increment on a proved one", vault.isProved(vault.increment()), false);
            Tests.due("the one left", Tests.vault(Edges.THINNED).isProved(2), true);
        });
    }

    private static void files(Tests tests) {
        tests.test("19 restore \"if there is no such copy or file\": the file", () -> {
            for (Tests.Deed state : new Tests.Deed[] {Edges.SOME, Edges.FULL}) {
                Edges.refused("restore of 0, file", Edges.OUT, state, (vault, file) -> vault.restore(0, file),
                        Edges.outside(0, 9));
            }
            Edges.refused("restore of 4, file", Edges.OUT, Edges.SOME, (vault, file) -> vault.restore(4, file), -1, 10);
        });
        tests.test("20 restoreByChanges \"if there is no such copy or file\": the file", () -> {
            for (Tests.Deed state : new Tests.Deed[] {Edges.SOME, Edges.FULL}) {
                Edges.refused("restoreByChanges of 0, file", Edges.OUT, state,
                        (vault, file) -> vault.restoreByChanges(0, file), Edges.outside(0, 9));
            }
            Edges.refused("restoreByChanges of 4, file", Edges.OUT, Edges.SOME,
                    (vault, file) -> vault.restoreByChanges(4, file), -1, 10);
        });
        tests.test("19, 20 \"if there is no such copy or file\": neither", () -> {
            for (int file : Edges.outside(0, 9)) {
                Edges.refused("restore, file " + file, Edges.OUT, Edges.SOME,
                        (vault, copy) -> vault.restore(copy, file), -1, 5, 60);
                Edges.refused("restoreByChanges, file " + file, Edges.OUT, Edges.SOME,
                        (vault, copy) -> vault.restoreByChanges(copy, file), -1, 5, 60);
            }
        });
        tests.test("19, 20 \"file: 0 to 9\"", () -> {
            DrillVault vault = new DrillVault();
            for (int file = 0; file <= 9; file++) {
                vault.change(file, 90 + file);
            }
            vault.full();
            for (int file = 0; file <= 9; file++) {
                Tests.due("restore of " + file, vault.restore(0, file), 90 + file);
                Tests.due("by changes of " + file, vault.restoreByChanges(0, file), 90 + file);
            }
        });
    }

    private static void damagedOrNot(Tests tests) {
        tests.test("19 \"what a copy restores of a file, damaged or not\"", () -> {
            for (int damaged = 0; damaged < 60; damaged += 7) {
                DrillVault vault = Tests.vault(Edges.FULL);
                int chain = damaged / 5 * 5 + 4;
                String before = restored(vault, damaged) + restored(vault, chain);
                vault.damage(damaged);
                Tests.due("damaged " + damaged, restored(vault, damaged) + restored(vault, chain), before);
                Tests.due("drill", vault.drill(chain), -1);
                Tests.due("drilled, " + damaged, restored(vault, damaged) + restored(vault, chain), before);
            }
        });
        tests.test("19 the first copy of the chain that keeps one for the file", () -> {
            DrillVault vault = new DrillVault();
            vault.change(0, 1);
            vault.full();
            vault.change(1, 2);
            vault.increment();
            vault.change(0, 0);
            vault.increment();
            int[][] want = {{1, 0}, {1, 2}, {0, 2}};
            for (int copy = 0; copy < 3; copy++) {
                Tests.due("file 0 of " + copy, vault.restore(copy, 0), want[copy][0]);
                Tests.due("file 1 of " + copy, vault.restore(copy, 1), want[copy][1]);
            }
        });
    }

    private static String restored(DrillVault vault, int copy) {
        StringBuilder seen = new StringBuilder();
        for (int file = 0; file <= 9; file++) {
            seen.append(vault.restore(copy, file)).append(' ');
        }
        return seen.toString();
    }

    private static void allChangesAhead(Tests tests) {
        tests.test("20 \"found from all changes that were made ahead of the copy\": the 1st and the 300th", () -> {
            DrillVault vault = new DrillVault();
            vault.full();
            vault.change(0, 99);
            vault.full();
            for (int i = 2; i < 300; i++) {
                vault.change(1 + i % 9, i % 100);
            }
            vault.full();
            vault.change(9, 55);
            vault.increment();
            Tests.due("ahead of the 1st", vault.restoreByChanges(0, 0), 0);
            Tests.due("behind the 1st", vault.restoreByChanges(1, 0), 99);
            Tests.due("the 1st at last", vault.restoreByChanges(3, 0), 99);
            Tests.due("ahead of the 300th", vault.restoreByChanges(2, 9), 96);
            Tests.due("behind the 300th", vault.restoreByChanges(3, 9), 55);
            Tests.due("restore ahead of the 300th", vault.restore(2, 9), 96);
            Tests.due("restore behind the 300th", vault.restore(3, 9), 55);
        });
        tests.test("20 \"Returns the same\": both answers of every copy of a full store", () -> {
            for (int first = 0; first < 60; first += 6) {
                DrillVault vault = Tests.vault(Edges.FULL);
                for (int copy = first; copy < first + 6; copy++) {
                    for (int file = 0; file <= 9; file++) {
                        Tests.due("copy " + copy + " file " + file, vault.restoreByChanges(copy, file),
                                vault.restore(copy, file));
                    }
                }
            }
        });
        tests.test("20 all changes count, also those ahead of copies that were taken off", () -> {
            DrillVault vault = new DrillVault();
            vault.change(3, 30);
            Edges.THINNED.accept(vault);
            Tests.due("by changes", vault.restoreByChanges(2, 3), 30);
            Tests.due("restore", vault.restore(2, 3), 30);
            vault.change(3, 31);
            vault.increment();
            Tests.due("by changes", vault.restoreByChanges(3, 3), 31);
            Tests.due("ahead of it", vault.restoreByChanges(2, 3), 30);
        });
    }
}
