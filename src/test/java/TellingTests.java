/** Promises 10 to 20: the calls that tell what there is. */
final class TellingTests {
    private TellingTests() {
    }

    static void addTo(Tests tests) {
        counts(tests);
        ofCopies(tests);
        generations(tests);
        restores(tests);
        tests.test("10 to 23 the calls that tell change nothing", () -> {
            tellingChangesNothing(Edges.SOME);
            tellingChangesNothing(Edges.FULL);
        });
    }

    private static void tellingChangesNothing(Tests.Deed state) {
        Tests.changesNothing("10 day", state, DrillVault::day);
        Tests.changesNothing("11 copies", state, DrillVault::copies);
        Tests.changesNothing("12 space", state, DrillVault::space);
        Tests.changesNothing("13 dayOf", state, vault -> vault.dayOf(2));
        Tests.changesNothing("14 baseOf", state, vault -> vault.baseOf(2));
        Tests.changesNothing("15 keeps", state, vault -> vault.keeps(2));
        Tests.changesNothing("16 isPromised", state, vault -> vault.isPromised(2));
        Tests.changesNothing("17 isNeeded", state, vault -> vault.isNeeded(2));
        Tests.changesNothing("18 isProved", state, vault -> vault.isProved(2));
        Tests.changesNothing("19 restore", state, vault -> vault.restore(2, 1));
        Tests.changesNothing("20 restoreByChanges", state, vault -> vault.restoreByChanges(2, 1));
        Tests.changesNothing("21 onCall", state, vault -> vault.onCall(8));
        Tests.changesNothing("23 alarm", state, vault -> vault.alarm(31));
    }

    private static void counts(Tests tests) {
        tests.test("10 day", () -> {
            DrillVault vault = new DrillVault();
            Tests.due("at first", vault.day(), 0);
            vault.pass(30);
            Tests.due("later", vault.day(), 30);
            Edges.passTo(vault, 360);
            Tests.due("at last", vault.day(), 360);
        });
        tests.test("11 copies, 12 space", () -> {
            DrillVault vault = new DrillVault();
            vault.full();
            Tests.due("copies", vault.copies(), 1);
            Tests.due("space of a full copy", vault.space(), 11);
            vault.increment();
            Tests.due("copies", vault.copies(), 2);
            Tests.due("space of an empty increment", vault.space(), 12);
            vault.change(4, 4);
            vault.change(5, 5);
            Tests.due("changes alone take none", vault.space(), 12);
            vault.increment();
            Tests.due("space", vault.space(), 15);
            vault.damage(2);
            Tests.due("copies, one damaged", vault.copies(), 3);
            Tests.due("space, one damaged", vault.space(), 15);
            vault.pass(1);
            vault.setRules(1, 0, 0);
            vault.drill(vault.full());
            vault.thin();
            Tests.due("copies", vault.copies(), 1);
            Tests.due("space", vault.space(), 11);
        });
    }

    private static void ofCopies(Tests tests) {
        tests.test("13 dayOf", () -> {
            DrillVault vault = GenerationTests.fullsOn(0, 1, 1, 17, 360);
            Tests.due("0", vault.dayOf(0), 0);
            Tests.due("1", vault.dayOf(1), 1);
            Tests.due("2", vault.dayOf(2), 1);
            Tests.due("3", vault.dayOf(3), 17);
            Tests.due("4", vault.dayOf(4), 360);
        });
        tests.test("14 baseOf", () -> {
            DrillVault vault = Tests.vault(Edges.SOME);
            Tests.due("0", vault.baseOf(0), DrillVault.NONE);
            Tests.due("1", vault.baseOf(1), 0);
            Tests.due("2", vault.baseOf(2), 1);
            Tests.due("3", vault.baseOf(3), -1);
            Tests.due("4", vault.baseOf(4), 3);
        });
        tests.test("15 keeps", () -> {
            DrillVault vault = Tests.vault(Edges.SOME);
            Tests.due("0", vault.keeps(0), 10);
            Tests.due("1", vault.keeps(1), 1);
            Tests.due("2", vault.keeps(2), 2);
            Tests.due("3", vault.keeps(3), 10);
            Tests.due("4", vault.keeps(4), 1);
        });
        tests.test("18 isProved", () -> {
            DrillVault vault = Tests.vault(Edges.SOME);
            Tests.due("0", vault.isProved(0), true);
            Tests.due("1", vault.isProved(1), true);
            Tests.due("2", vault.isProved(2), false);
            Tests.due("3", vault.isProved(3), false);
            Tests.due("an increment on a proved copy", vault.isProved(vault.increment()), false);
        });
    }

    private static void generations(Tests tests) {
        tests.test("16 isPromised", () -> {
            DrillVault vault = GenerationTests.fullsOn(0, 1, 8, 9, 9, 30);
            // Days: 5, 4, 2. Weeks: 5, 4. Months: 5.
            Tests.due("rules at first", GenerationTests.promised(vault, 6), "--+-++");
            vault.setRules(0, 3, 2);
            Tests.due("weeks and months", GenerationTests.promised(vault, 6), "-+--++");
        });
        tests.test("16 a copy is promised no more when later ones come", () -> {
            DrillVault vault = new DrillVault();
            vault.setRules(1, 0, 0);
            vault.full();
            Tests.due("alone", vault.isPromised(0), true);
            vault.increment();
            Tests.due("a later one of the day", GenerationTests.promised(vault, 2), "-+");
            vault.pass(1);
            Tests.due("the day after", GenerationTests.promised(vault, 2), "-+");
            vault.increment();
            Tests.due("a later day", GenerationTests.promised(vault, 3), "--+");
        });
        tests.test("17 isNeeded", () -> {
            DrillVault first = new DrillVault();
            first.full();
            Tests.due("asked as the first thing", first.isNeeded(0), true);
            first.increment();
            Tests.due("of an increment", first.isNeeded(1), true);
            DrillVault vault = Tests.vault(Edges.SOME);
            vault.setRules(1, 0, 0);
            Tests.due("the last chain", GenerationTests.needed(vault, 5), "---++");
            vault.setRules(2, 0, 0);
            Tests.due("two days", GenerationTests.needed(vault, 5), "+++++");
            vault.setRules(0, 0, 0);
            Tests.due("none", GenerationTests.needed(vault, 5), "-----");
        });
    }

    private static void restores(Tests tests) {
        tests.test("19 restore, 20 restoreByChanges: as it was when the copy was made", () -> {
            DrillVault vault = Tests.vault(Edges.SOME);
            int[][] want = {
                {10, 0, 0, 0, 0, 0, 0, 0, 0, 0},
                {10, 11, 0, 0, 0, 0, 0, 0, 0, 0},
                {10, 12, 0, 0, 0, 0, 0, 0, 0, 0},
                {10, 12, 0, 0, 0, 0, 0, 0, 0, 0},
                {10, 12, 0, 0, 0, 0, 0, 0, 0, 99}};
            for (int copy = 0; copy < 5; copy++) {
                for (int file = 0; file < 10; file++) {
                    Tests.due("restore " + copy + " " + file, vault.restore(copy, file), want[copy][file]);
                    Tests.due("by changes " + copy + " " + file, vault.restoreByChanges(copy, file), want[copy][file]);
                }
            }
        });
        tests.test("19, 20 a chain of 60 with 300 changes", () -> {
            for (int part = 0; part < 60; part += 10) {
                restoreLongChain(part);
            }
        });
        tests.test("19 restore of a damaged chain", () -> {
            DrillVault vault = Tests.vault(Edges.SOME);
            vault.damage(4);
            Tests.due("damaged copy and base", vault.restore(4, 9), 99);
            Tests.due("by changes", vault.restoreByChanges(4, 9), 99);
        });
        tests.test("19, 20 restore after the copies ahead were taken off", () -> {
            DrillVault vault = new DrillVault();
            vault.change(3, 30);
            vault.full();
            vault.change(3, 31);
            vault.increment();
            vault.pass(1);
            vault.full();
            vault.change(4, 40);
            vault.drill(vault.increment());
            vault.setRules(1, 1, 1);
            Tests.due("thin", vault.thin(), 13);
            Tests.due("restore", vault.restore(3, 3), 31);
            Tests.due("by changes", vault.restoreByChanges(3, 3), 31);
            Tests.due("restore", vault.restore(2, 4), 0);
            Tests.due("by changes", vault.restoreByChanges(2, 4), 0);
        });
    }

    private static void restoreLongChain(int part) {
        DrillVault vault = new DrillVault();
        for (int copy = 0; copy < 60; copy++) {
            for (int i = 0; i < 5; i++) {
                vault.change((copy + i) % 10, copy);
            }
            if (copy == 0) {
                vault.full();
            } else {
                vault.increment();
            }
        }
        for (int copy = part; copy < part + 10; copy++) {
            for (int file = 0; file < 5; file++) {
                // The copy's own changes reach the files copy to copy + 4, the ones ahead the rest.
                int back = Math.floorMod(copy - file, 10);
                int want = back == 0 || back >= 6 ? copy : copy - back;
                Tests.due("restore " + copy + " " + file, vault.restore(copy, file), Math.max(0, want));
                Tests.due("by changes " + copy + " " + file, vault.restoreByChanges(copy, file), Math.max(0, want));
            }
        }
    }
}
