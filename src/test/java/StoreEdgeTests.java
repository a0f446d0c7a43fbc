/** The edges of promises 1 to 7, a test for each sentence that names one. */
final class StoreEdgeTests {
    private StoreEdgeTests() {
    }

    static void addTo(Tests tests) {
        newObjects(tests);
        rulesAtFirst(tests);
        changes(tests);
        countOfChanges(tests);
        passing(tests);
        countOfCopies(tests);
        noCopyIsThere(tests);
        whatAnIncrementKeeps(tests);
        damages(tests);
        drillsThatFail(tests);
        provedNoMore(tests);
    }

    private static void newObjects(Tests tests) {
        tests.test("1 \"No copies\"", () -> {
            Tests.due("copies", new DrillVault().copies(), 0);
            Tests.due("space", new DrillVault().space(), 0);
            Tests.due("thin", new DrillVault().thin(), 0);
            Tests.due("promised", new DrillVault().setRules(30, 20, 12), 0);
            for (Edges.OfCopy each : Edges.OF_COPIES) {
                DrillVault vault = new DrillVault();
                for (int copy = 0; copy <= 60; copy++) {
                    int number = copy;
                    Tests.dueThrow(each.name + " of " + copy, Edges.OUT, () -> each.method.call(vault, number));
                }
            }
        });
        tests.test("1 \"the day 0\"", () -> {
            Tests.due("day", new DrillVault().day(), 0);
            Tests.due("a day later", new DrillVault().pass(1), 1);
            DrillVault vault = new DrillVault();
            vault.full();
            Tests.due("dayOf", vault.dayOf(0), 0);
        });
        tests.test("1 each file \"with a content, a number from 0 to 99, 0 at first\"", () -> {
            DrillVault vault = new DrillVault();
            vault.full();
            for (int file = 0; file <= 9; file++) {
                Tests.due("restore " + file, vault.restore(0, file), 0);
                Tests.due("by changes " + file, vault.restoreByChanges(0, file), 0);
                Tests.due("first change of " + file, vault.change(file, 99), 0);
            }
        });
        tests.test("1 \"the person d modulo 5 is on call\"", () -> {
            DrillVault vault = new DrillVault();
            for (int day = 0; day <= 364; day++) {
                Tests.due("onCall " + day, vault.onCall(day), day % 5);
            }
        });
    }

    private static void rulesAtFirst(Tests tests) {
        tests.test("1 the rule for days \"(3 at first)\"", () -> {
            DrillVault vault = GenerationTests.fullsOn(0, 1, 2, 3);
            Tests.due("four days of a week", GenerationTests.promised(vault, 4), "-+++");
            Tests.due("three of them", GenerationTests.promised(GenerationTests.fullsOn(0, 1, 2), 3), "+++");
        });
        tests.test("1 the rule for weeks \"(2 at first)\"", () -> {
            DrillVault vault = GenerationTests.fullsOn(0, 7, 14, 15, 16);
            Tests.due("three weeks of a month", GenerationTests.promised(vault, 5), "-++++");
        });
        tests.test("1 the rule for months \"(1 at first)\"", () -> {
            DrillVault vault = GenerationTests.fullsOn(27, 35, 42, 43, 44);
            Tests.due("two months, the latest of two weeks", GenerationTests.promised(vault, 5), "-++++");
        });
    }

    private static void changes(Tests tests) {
        tests.test("2 \"file: 0 to 9\"", () -> {
            DrillVault vault = new DrillVault();
            for (int file = 0; file <= 9; file++) {
                Tests.due("change of " + file, vault.change(file, 10 + file), 0);
            }
            vault.full();
            for (int file = 0; file <= 9; file++) {
                Tests.due("restore of " + file, vault.restore(0, file), 10 + file);
                Tests.due("change of " + file, vault.change(file, 0), 10 + file);
            }
            Edges.refusedOutside("change of the file", Edges.OUT, 0, 9, (each, file) -> each.change(file, 5));
        });
        tests.test("2 \"content: 0 to 99\"", () -> {
            DrillVault vault = new DrillVault();
            vault.change(4, 99);
            int before = 99;
            for (int content = 0; content <= 99; content++) {
                Tests.due("change to " + content, vault.change(4, content), before);
                before = content;
            }
            vault.full();
            Tests.due("restore of the greatest", vault.restore(0, 4), 99);
            vault.change(4, 0);
            vault.increment();
            Tests.due("restore of the least", vault.restore(1, 4), 0);
            Edges.refusedOutside("change of 0 to the content", Edges.ARGUMENT, 0, 99,
                    (each, content) -> each.change(0, content));
            Edges.refusedOutside("change of 9 to the content", Edges.ARGUMENT, 0, 99,
                    (each, content) -> each.change(9, content));
        });
    }

    private static void countOfChanges(Tests tests) {
        tests.test("2 \"if there were 300 changes\": the 300th and the one behind it", () -> {
            DrillVault vault = new DrillVault();
            Edges.changeTimes(vault, 299);
            Tests.due("the 300th", vault.change(3, 77), 93);
            for (int file = 0; file <= 9; file++) {
                int changed = file;
                Tests.dueThrow("the one behind it, of " + file, Edges.STATE, () -> vault.change(changed, 50));
            }
            vault.full();
            Tests.due("the 300th is restored", vault.restore(0, 3), 77);
            Tests.due("the 300th by changes", vault.restoreByChanges(0, 3), 77);
            Tests.refused("the 301st", Edges.STATE, each -> Edges.changeTimes(each, 300), each -> each.change(0, 0));
            Tests.refused("the 301st of a full object", Edges.STATE, Edges.FULL, each -> each.change(9, 99));
        });
        tests.test("2 \"if there were 300 changes\": those to the same content, and of one file", () -> {
            DrillVault vault = new DrillVault();
            for (int i = 1; i <= 300; i++) {
                Tests.due("change " + i, vault.change(9, 0), 0);
            }
            Tests.dueThrow("the one behind them", Edges.STATE, () -> vault.change(9, 0));
        });
        tests.test("2 \"if there were 300 changes\": no call brings one back", () -> {
            Tests.Deed later = vault -> {
                Edges.changeTimes(vault, 300);
                Edges.THINNED.accept(vault);
                vault.damage(2);
                vault.drill(2);
                vault.pass(30);
                vault.increment();
            };
            Tests.refused("the 301st", Edges.STATE, later, vault -> vault.change(1, 1));
        });
        tests.test("2 \"if there were 300 changes\": the refused ones were none", () -> {
            DrillVault vault = new DrillVault();
            Edges.changeTimes(vault, 299);
            Tests.dueThrow("no file", Edges.OUT, () -> vault.change(10, 0));
            Tests.dueThrow("no content", Edges.ARGUMENT, () -> vault.change(0, 100));
            Tests.due("the 300th", vault.change(0, 1), 90);
            Tests.dueThrow("the one behind it", Edges.STATE, () -> vault.change(0, 1));
        });
    }

    private static void passing(Tests tests) {
        tests.test("3 \"days: 1 to 30\"", () -> {
            for (int days = 1; days <= 30; days++) {
                DrillVault vault = new DrillVault();
                Tests.due("pass " + days, vault.pass(days), days);
                Tests.due("day", vault.day(), days);
            }
            Edges.refusedOutside("pass of days", Edges.ARGUMENT, 1, 30, DrillVault::pass);
        });
        tests.test("3 \"if the day would be above 360\": up to 360 and one further", () -> {
            for (int days = 1; days <= 30; days++) {
                Tests.due("to 360 by " + days, Edges.onDay(360 - days).pass(days), 360);
                DrillVault vault = Edges.onDay(361 - days);
                int much = days;
                Tests.dueThrow("to 361 by " + days, Edges.STATE, () -> vault.pass(much));
                Tests.due("day", vault.day(), 361 - days);
            }
            Tests.refused("331 and 30", Edges.STATE, each -> Edges.passTo(each, 331), each -> each.pass(30));
            Tests.refused("359 and 2", Edges.STATE, each -> Edges.passTo(each, 359), each -> each.pass(2));
        });
        tests.test("3 \"if the day would be above 360\": on the day 360", () -> {
            Edges.refused("pass", Edges.STATE, Edges.FULL, DrillVault::pass, 1, 30);
            DrillVault vault = Edges.onDay(360);
            Tests.due("full", vault.full(), 0);
            Tests.due("day of the copy", vault.dayOf(0), 360);
        });
        tests.test("3 \"if the day would be above 360\": fewer days may pass after that", () -> {
            DrillVault vault = Edges.onDay(331);
            Tests.dueThrow("30 days", Edges.STATE, () -> vault.pass(30));
            Tests.due("29 days", vault.pass(29), 360);
        });
    }

    private static void countOfCopies(Tests tests) {
        tests.test("4 \"if 60 copies were made\": the 60th and the one behind it", () -> {
            DrillVault vault = new DrillVault();
            for (int copy = 0; copy < 60; copy++) {
                Tests.due("full", vault.full(), copy);
            }
            Tests.dueThrow("the one behind it", Edges.STATE, vault::full);
            Tests.due("copies", vault.copies(), 60);
            Tests.refused("after 60 full copies", Edges.STATE, each -> Edges.fullTimes(each, 60), DrillVault::full);
            Tests.refused("of a full object", Edges.STATE, Edges.FULL, DrillVault::full);
        });
        tests.test("4 \"if 60 copies were made\": also if they were increments", () -> {
            DrillVault vault = new DrillVault();
            vault.full();
            for (int copy = 1; copy < 59; copy++) {
                vault.increment();
            }
            Tests.due("the 60th", vault.full(), 59);
            Tests.due("it is a full one", vault.keeps(59), 10);
            Tests.dueThrow("the one behind it", Edges.STATE, vault::full);
        });
        tests.test("4 \"if 60 copies were made\": also if they were taken off", () -> {
            Tests.due("copies", Tests.vault(Edges.THINNED_OF_60).copies(), 1);
            Tests.refused("of a thinned store", Edges.STATE, Edges.THINNED_OF_60, DrillVault::full);
        });
        tests.test("5 \"if 60 copies were made\": the 60th and the one behind it", () -> {
            DrillVault vault = new DrillVault();
            vault.full();
            for (int copy = 1; copy < 60; copy++) {
                vault.change(copy % 10, copy);
                Tests.due("increment", vault.increment(), copy);
            }
            Tests.due("base of the 60th", vault.baseOf(59), 58);
            Tests.due("chain of the 60th", vault.drill(59), 60);
            Tests.dueThrow("the one behind it", Edges.STATE, vault::increment);
            Tests.refused("of a full object", Edges.STATE, Edges.FULL, DrillVault::increment);
        });
        tests.test("5 \"if 60 copies were made\": also if they were full ones", () -> {
            DrillVault vault = new DrillVault();
            Edges.fullTimes(vault, 59);
            Tests.due("the 60th", vault.increment(), 59);
            Tests.due("base of the 60th", vault.baseOf(59), 58);
            Tests.dueThrow("the one behind it", Edges.STATE, vault::increment);
            Tests.refused("after 60 full copies", Edges.STATE, each -> Edges.fullTimes(each, 60),
                    DrillVault::increment);
        });
        tests.test("5 \"if 60 copies were made\": also if they were taken off", () ->
                Tests.refused("of a thinned store", Edges.STATE, Edges.THINNED_OF_60, DrillVault::increment));
    }

    private static void noCopyIsThere(Tests tests) {
        tests.test("5 \"or no copy is there\"", () -> {
            Tests.refused("increment of a new object", Edges.STATE, Edges.EMPTY, DrillVault::increment);
            Tests.refused("increment after all but a copy", Edges.STATE, vault -> {
                vault.change(1, 1);
                vault.pass(4);
                vault.setRules(1, 1, 1);
                vault.thin();
            }, DrillVault::increment);
        });
        tests.test("5 \"or no copy is there\": the refused increment has no number", () -> {
            DrillVault vault = new DrillVault();
            Tests.dueThrow("increment", Edges.STATE, vault::increment);
            Tests.due("full", vault.full(), 0);
            Tests.due("increment", vault.increment(), 1);
        });
        tests.test("5 \"an increment has a base, the latest copy that is there\"", () -> {
            DrillVault vault = new DrillVault();
            vault.full();
            for (int copy = 1; copy < 60; copy++) {
                vault.damage(copy - 1);
                Tests.due("number", copy % 7 == 0 ? vault.full() : vault.increment(), copy);
                Tests.due("base of " + copy, vault.baseOf(copy), copy % 7 == 0 ? -1 : copy - 1);
            }
        });
        tests.test("5 \"the latest copy that is there\": after thinning", () -> {
            DrillVault vault = Tests.vault(Edges.THINNED);
            Tests.due("increment", vault.increment(), 3);
            Tests.due("base", vault.baseOf(3), 2);
            Tests.due("chain", vault.drill(3), 2);
        });
    }

    private static void whatAnIncrementKeeps(Tests tests) {
        tests.test("5 keeps \"those for which there was a change\" since, and none from ahead", () -> {
            DrillVault vault = new DrillVault();
            vault.change(0, 1);
            vault.full();
            Tests.due("increment", vault.increment(), 1);
            Tests.due("none has changed", vault.keeps(1), 0);
            vault.change(9, 2);
            vault.pass(30);
            vault.increment();
            Tests.due("the one right behind the base", vault.keeps(2), 1);
            vault.increment();
            Tests.due("none since the latest", vault.keeps(3), 0);
            for (int file = 0; file <= 9; file++) {
                vault.change(file, 60 + file);
            }
            vault.increment();
            Tests.due("all files", vault.keeps(4), 10);
            Tests.due("yet an increment", vault.baseOf(4), 3);
            Tests.due("space", vault.space(), 11 + 1 + 2 + 1 + 11);
        });
        tests.test("5 keeps \"also one to the same content\"", () -> {
            for (int file = 0; file <= 9; file++) {
                DrillVault vault = new DrillVault();
                vault.full();
                vault.change(file, 0);
                vault.increment();
                Tests.due("keeps of " + file, vault.keeps(1), 1);
                vault.change(file, 5);
                vault.change(file, 0);
                vault.increment();
                Tests.due("there and back of " + file, vault.keeps(2), 1);
                Tests.due("restore of " + file, vault.restore(2, file), 0);
                Tests.due("space", vault.space(), 11 + 2 + 2);
            }
        });
        tests.test("5 keeps the 300th change", () -> {
            DrillVault vault = new DrillVault();
            Edges.changeTimes(vault, 299);
            vault.full();
            vault.change(9, 98);
            vault.increment();
            Tests.due("keeps", vault.keeps(1), 1);
            Tests.due("restore", vault.restore(1, 9), 98);
        });
    }

    private static void damages(Tests tests) {
        tests.test("6 \"how many promised copies have a damaged one in their chains\": none to all", () -> {
            DrillVault none = GenerationTests.fullsOn(0, 1, 2, 3);
            Tests.due("not in a promised chain", none.damage(0), 0);
            DrillVault all = GenerationTests.fullsOn(0);
            for (int copy = 1; copy < 60; copy++) {
                all.pass(1);
                all.increment();
            }
            Tests.due("promised", all.setRules(30, 0, 0), 30);
            Tests.due("the last one", all.damage(59), 1);
            Tests.due("the first promised one", all.damage(30), 30);
            all.setRules(0, 0, 0);
            Tests.due("none is promised", all.damage(0), 0);
        });
        tests.test("6 \"how many promised copies have a damaged one\": one that was damaged counts anew", () -> {
            DrillVault vault = GenerationTests.fullsOn(0, 1);
            Tests.due("damage", vault.damage(1), 1);
            Tests.due("again", vault.damage(1), 1);
            Tests.due("the other", vault.damage(0), 2);
        });
        tests.test("6 \"A copy that is damaged is proved no more\"", () -> {
            DrillVault vault = new DrillVault();
            vault.full();
            vault.increment();
            vault.increment();
            vault.drill(2);
            vault.damage(1);
            Tests.due("proved 0", vault.isProved(0), true);
            Tests.due("proved 1", vault.isProved(1), false);
            Tests.due("proved 2", vault.isProved(2), true);
            vault.damage(2);
            Tests.due("proved 2", vault.isProved(2), false);
            vault.damage(0);
            Tests.due("proved 0", vault.isProved(0), false);
        });
    }

    private static DrillVault provedChainOf4() {
        DrillVault vault = new DrillVault();
        vault.full();
        vault.increment();
        vault.increment();
        vault.increment();
        vault.drill(3);
        return vault;
    }

    private static void drillsThatFail(Tests tests) {
        tests.test("7 \"NONE if the drill fails\": the damaged one at each place of the chain", () -> {
            for (int damaged = 0; damaged < 4; damaged++) {
                DrillVault vault = provedChainOf4();
                vault.damage(damaged);
                for (int copy = 0; copy < 4; copy++) {
                    int want = copy < damaged ? copy + 1 : DrillVault.NONE;
                    Tests.due(damaged + " is damaged, drill " + copy, vault.drill(copy), want);
                }
            }
        });
        tests.test("7 \"NONE if the drill fails\": chains of 1 and of 60", () -> {
            DrillVault vault = new DrillVault();
            vault.full();
            Tests.due("drill of a full copy", vault.drill(0), 1);
            for (int copy = 1; copy < 60; copy++) {
                vault.increment();
            }
            Tests.due("drill of 59", vault.drill(59), 60);
            vault.damage(59);
            Tests.due("drill of 58", vault.drill(58), 59);
            Tests.due("drill of 59", vault.drill(59), -1);
            vault.damage(0);
            Tests.due("drill of 58", vault.drill(58), -1);
            Tests.due("drill of 0", vault.drill(0), -1);
        });
    }

    private static void provedNoMore(Tests tests) {
        tests.test("7 \"then nothing is proved\"", () -> {
            DrillVault vault = new DrillVault();
            vault.full();
            vault.increment();
            vault.increment();
            vault.damage(1);
            Tests.due("drill", vault.drill(2), -1);
            for (int copy = 0; copy < 3; copy++) {
                Tests.due("proved " + copy, vault.isProved(copy), false);
            }
        });
        tests.test("7 \"the copies of the chain are proved no more\", and no others", () -> {
            for (int drilled = 1; drilled < 4; drilled++) {
                DrillVault vault = provedChainOf4();
                vault.drill(vault.full());
                vault.damage(1);
                vault.drill(drilled);
                for (int copy = 0; copy < 5; copy++) {
                    Tests.due("drill " + drilled + ", proved " + copy, vault.isProved(copy), copy > drilled);
                }
            }
        });
        tests.test("7 \"Otherwise all copies of the chain are proved\", and no others", () -> {
            for (int drilled = 0; drilled < 4; drilled++) {
                DrillVault vault = new DrillVault();
                vault.full();
                vault.full();
                vault.increment();
                vault.increment();
                vault.drill(drilled);
                for (int copy = 0; copy < 4; copy++) {
                    boolean want = drilled == 0 ? copy == 0 : copy > 0 && copy <= drilled;
                    Tests.due("drill " + drilled + ", proved " + copy, vault.isProved(copy), want);
                }
            }
        });
    }
}
