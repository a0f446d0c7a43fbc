/** The edges of promises 8, 9, 16 and 17, a test for each sentence that names one. */
final class GenerationEdgeTests {
    private GenerationEdgeTests() {
    }

    static void addTo(Tests tests) {
        ranges(tests);
        longestRules(tests);
        periods(tests);
        copiesOfADay(tests);
        needed(tests);
        loose(tests);
        looseBehindAProof(tests);
        looseToTheEnd(tests);
        looseBehindANeededOne(tests);
        allAtOnce(tests);
    }

    private static void ranges(Tests tests) {
        tests.test("8 \"days: 0 to 30\"", () -> {
            for (int days = 0; days <= 30; days++) {
                Tests.due("days " + days, GenerationTests.fullsOn(0, 1, 2).setRules(days, 0, 0), Math.min(days, 3));
            }
            Edges.refusedOutside("setRules by days", Edges.ARGUMENT, 0, 30,
                    (vault, days) -> vault.setRules(days, 1, 1));
        });
        tests.test("8 \"weeks: 0 to 20\"", () -> {
            for (int weeks = 0; weeks <= 20; weeks++) {
                Tests.due("weeks " + weeks, GenerationTests.fullsOn(0, 7, 14).setRules(0, weeks, 0),
                        Math.min(weeks, 3));
            }
            Edges.refusedOutside("setRules by weeks", Edges.ARGUMENT, 0, 20,
                    (vault, weeks) -> vault.setRules(1, weeks, 1));
        });
        tests.test("8 \"months: 0 to 12\"", () -> {
            for (int months = 0; months <= 12; months++) {
                Tests.due("months " + months, GenerationTests.fullsOn(0, 28, 56).setRules(0, 0, months),
                        Math.min(months, 3));
            }
            Edges.refusedOutside("setRules by months", Edges.ARGUMENT, 0, 12,
                    (vault, months) -> vault.setRules(1, 1, months));
        });
        tests.test("8 two or three rules out of range at once", () -> {
            int[][] wrong = {{-1, -1, 1}, {31, 1, 13}, {1, 21, -1}, {31, 21, 13}, {-1, -1, -1},
                {Integer.MIN_VALUE, Integer.MAX_VALUE, Integer.MIN_VALUE}};
            for (int[] rule : wrong) {
                Tests.refused("setRules " + rule[0] + " " + rule[1] + " " + rule[2], Edges.ARGUMENT, Edges.SOME,
                        vault -> vault.setRules(rule[0], rule[1], rule[2]));
            }
        });
        tests.test("8 the least and the greatest rules on an empty store and on a full one", () -> {
            Tests.due("empty, least", new DrillVault().setRules(0, 0, 0), 0);
            Tests.due("empty, greatest", new DrillVault().setRules(30, 20, 12), 0);
            DrillVault vault = Tests.vault(Edges.FULL);
            Tests.due("least", vault.setRules(0, 0, 0), 0);
            Tests.due("greatest, twelve days", vault.setRules(30, 20, 12), 12);
        });
    }

    private static void longestRules(Tests tests) {
        tests.test("8 \"as many as the rule for days tells\": 30 of 31 days", () -> {
            DrillVault vault = everyDays(1, 31);
            Tests.due("setRules", vault.setRules(30, 0, 0), 30);
            Tests.due("the first", vault.isPromised(0), false);
            Tests.due("the second", vault.isPromised(1), true);
            Tests.due("one fewer", vault.setRules(29, 0, 0), 29);
        });
        tests.test("8 \"of the latest weeks as many as the rule for weeks tells\": 20 of 21 weeks", () -> {
            DrillVault vault = everyDays(7, 21);
            Tests.due("setRules", vault.setRules(0, 20, 0), 20);
            Tests.due("the first", vault.isPromised(0), false);
            Tests.due("the second", vault.isPromised(1), true);
            Tests.due("one fewer", vault.setRules(0, 19, 0), 19);
        });
        tests.test("8 \"of the latest months, as many as the rule for months tells\": 12 of 13 months", () -> {
            DrillVault vault = everyDays(28, 13);
            Tests.due("setRules", vault.setRules(0, 0, 12), 12);
            Tests.due("the first", vault.isPromised(0), false);
            Tests.due("the second", vault.isPromised(1), true);
            Tests.due("one fewer", vault.setRules(0, 0, 11), 11);
        });
        tests.test("8 periods without copies do not count among the latest", () -> {
            DrillVault vault = GenerationTests.fullsOn(0, 100, 330);
            vault.pass(30);
            vault.setRules(2, 0, 0);
            Tests.due("days", GenerationTests.promised(vault, 3), "-++");
            vault.setRules(0, 2, 0);
            Tests.due("weeks", GenerationTests.promised(vault, 3), "-++");
            vault.setRules(0, 0, 2);
            Tests.due("months", GenerationTests.promised(vault, 3), "-++");
        });
    }

    /** A full copy on the day 0 and then one whenever so many days have passed. */
    private static DrillVault everyDays(int days, int copies) {
        int[] on = new int[copies];
        for (int copy = 0; copy < copies; copy++) {
            on[copy] = copy * days;
        }
        return GenerationTests.fullsOn(on);
    }

    private static void periods(Tests tests) {
        tests.test("8, 16 \"Weeks are days 7 * w to 7 * w + 6\": each week's first and last day", () -> {
            for (int week = 0; 7 * week + 7 <= 360; week++) {
                DrillVault vault = GenerationTests.fullsOn(7 * week, 7 * week + 6, 7 * week + 7);
                vault.setRules(0, 2, 0);
                Tests.due("week " + week, GenerationTests.promised(vault, 3), "-++");
                Tests.due("one week", vault.setRules(0, 1, 0), 1);
                Tests.due("all weeks", vault.setRules(0, 20, 0), 2);
            }
        });
        tests.test("8, 16 \"months are days 28 * m to 28 * m + 27\": each month's first and last day", () -> {
            for (int month = 0; 28 * month + 28 <= 360; month++) {
                DrillVault vault = GenerationTests.fullsOn(28 * month, 28 * month + 27, 28 * month + 28);
                vault.setRules(0, 0, 2);
                Tests.due("month " + month, GenerationTests.promised(vault, 3), "-++");
                Tests.due("one month", vault.setRules(0, 0, 1), 1);
                Tests.due("all months", vault.setRules(0, 0, 12), 2);
            }
        });
        tests.test("17 needed by weeks and months: an increment on their last day holds its chain", () -> {
            for (int first : new int[] {0, 28, 308}) {
                DrillVault vault = GenerationTests.fullsOn(first);
                int[] later = {first + 6, first + 7, first + 27, first + 28};
                for (int copy = 1; copy <= later.length; copy++) {
                    Edges.passTo(vault, later[copy - 1]);
                    Tests.due("number", copy % 2 == 1 ? vault.increment() : vault.full(), copy);
                }
                // The chains are 0 1, then 2 3, then 4; the weeks have 0 1, 2, 3, 4; the months 0 1 2 3, 4.
                vault.setRules(0, 4, 0);
                Tests.due("four weeks from " + first, GenerationTests.needed(vault, 5), "+++++");
                vault.setRules(0, 3, 0);
                Tests.due("three weeks from " + first, GenerationTests.needed(vault, 5), "--+++");
                vault.setRules(0, 0, 2);
                Tests.due("two months from " + first, GenerationTests.needed(vault, 5), "--+++");
                vault.setRules(0, 0, 1);
                Tests.due("a month from " + first, GenerationTests.needed(vault, 5), "----+");
            }
        });
        tests.test("16 the day 360: week 51, month 12", () -> {
            DrillVault vault = GenerationTests.fullsOn(335, 336, 356, 357, 360);
            vault.setRules(0, 2, 0);
            Tests.due("weeks", GenerationTests.promised(vault, 5), "--+-+");
            vault.setRules(0, 0, 2);
            Tests.due("months", GenerationTests.promised(vault, 5), "+---+");
        });
        tests.test("16 a copy that several rules promise counts once", () -> {
            DrillVault vault = GenerationTests.fullsOn(0);
            Tests.due("setRules", vault.setRules(1, 1, 1), 1);
            Tests.due("promised", vault.isPromised(0), true);
        });
    }

    private static void copiesOfADay(Tests tests) {
        tests.test("16 \"A copy of a day is the last one of it\"", () -> {
            DrillVault vault = new DrillVault();
            vault.setRules(1, 0, 0);
            for (int copy = 0; copy < 60; copy++) {
                Tests.due("number", copy % 2 == 0 ? vault.full() : vault.increment(), copy);
                Tests.due("the last one " + copy, vault.isPromised(copy), true);
                if (copy > 0) {
                    Tests.due("the one ahead of " + copy, vault.isPromised(copy - 1), false);
                }
            }
        });
        tests.test("16 \"the last copy of each\" of days, weeks and months", () -> {
            DrillVault vault = GenerationTests.fullsOn(26, 27, 27, 28, 28, 34, 34);
            vault.setRules(4, 0, 0);
            Tests.due("days", GenerationTests.promised(vault, 7), "+-+-+-+");
            vault.setRules(0, 2, 0);
            Tests.due("weeks", GenerationTests.promised(vault, 7), "--+---+");
            vault.setRules(0, 0, 2);
            Tests.due("months", GenerationTests.promised(vault, 7), "--+---+");
        });
        tests.test("16 \"if no later copy that is there was made on this day\": only those there count", () -> {
            DrillVault vault = GenerationTests.fullsOn(0, 1, 1, 2, 3);
            vault.drill(4);
            vault.setRules(1, 0, 0);
            Tests.due("thin", vault.thin(), 44);
            Tests.due("one day is left", vault.setRules(30, 20, 12), 1);
        });
    }

    private static void needed(Tests tests) {
        tests.test("17 \"Needed are all copies in the chains of promised ones\", to the full copy", () -> {
            DrillVault vault = new DrillVault();
            vault.full();
            vault.full();
            for (int copy = 2; copy < 60; copy++) {
                vault.increment();
            }
            for (int copy = 0; copy < 60; copy++) {
                Tests.due("promised " + copy, vault.isPromised(copy), copy == 59);
                Tests.due("needed " + copy, vault.isNeeded(copy), copy >= 1);
            }
            vault.setRules(0, 0, 0);
            for (int copy = 0; copy < 60; copy++) {
                Tests.due("needed by nothing " + copy, vault.isNeeded(copy), false);
            }
        });
        tests.test("17 increments on a promised copy are not needed for that", () -> {
            DrillVault vault = GenerationTests.fullsOn(0);
            vault.pass(1);
            vault.increment();
            vault.increment();
            vault.full();
            vault.setRules(2, 0, 0);
            Tests.due("promised", GenerationTests.promised(vault, 4), "+--+");
            Tests.due("needed", GenerationTests.needed(vault, 4), "+--+");
        });
        tests.test("17 damaged copies are needed like others", () -> {
            DrillVault vault = Tests.vault(Edges.SOME);
            vault.damage(0);
            vault.damage(4);
            Tests.due("needed", GenerationTests.needed(vault, 5), "+++++");
        });
    }

    private static void loose(Tests tests) {
        tests.test("9 loose \"if it is there\": space is taken back once", () -> {
            DrillVault vault = GenerationTests.fullsOn(0, 0, 1);
            vault.setRules(0, 0, 0);
            vault.drill(2);
            Tests.due("thin", vault.thin(), 22);
            Tests.due("thin again", vault.thin(), 0);
            Tests.due("space", vault.space(), 11);
        });
        tests.test("9 loose if it \"is not needed\"", () -> {
            DrillVault vault = GenerationTests.fullsOn(0, 1, 2);
            vault.drill(2);
            Tests.due("three days promised", vault.thin(), 0);
            vault.setRules(2, 0, 0);
            Tests.due("two days promised", vault.thin(), 11);
            vault.setRules(0, 0, 1);
            Tests.due("one promised by its month", vault.thin(), 11);
            vault.setRules(0, 0, 0);
            Tests.due("the proved one is left", vault.thin(), 0);
        });
        tests.test("9 loose if \"made on a day ahead of that of some proved copy\": the same day is not", () -> {
            for (int day : new int[] {0, 1, 6, 7, 27, 28, 359}) {
                DrillVault vault = GenerationTests.fullsOn(day, day);
                vault.setRules(0, 0, 0);
                vault.drill(0);
                vault.drill(1);
                Tests.due("both on the day " + day, vault.thin(), 0);
                vault.pass(1);
                vault.full();
                Tests.due("the later one is not proved", vault.thin(), 0);
                vault.drill(2);
                Tests.due("both ahead of the day " + (day + 1), vault.thin(), 22);
            }
        });
    }

    private static void looseBehindAProof(Tests tests) {
        tests.test("9 loose behind \"some proved copy\": without any nothing is", () -> {
            DrillVault vault = Tests.vault(Edges.FULL);
            vault.setRules(0, 0, 0);
            Tests.due("54 of the day 300 is proved: ten chains ahead", vault.thin(), 10 * (11 + 4 * 6));
            DrillVault unproved = Tests.vault(Edges.FULL);
            unproved.setRules(0, 0, 0);
            for (int copy = 50; copy < 55; copy++) {
                unproved.damage(copy);
            }
            Tests.due("nothing is proved", unproved.thin(), 0);
        });
        tests.test("9 loose behind some proved copy \"that is there\"", () -> {
            // The copy 0 is of the week 0, the copies 1 and 2 are of the week 1.
            DrillVault vault = GenerationTests.fullsOn(0, 7, 8);
            vault.setRules(0, 2, 0);
            vault.drill(1);
            vault.drill(2);
            Tests.due("the proved copy 1 is taken off", vault.thin(), 11);
            vault.damage(2);
            vault.setRules(0, 0, 0);
            Tests.due("no proved copy is there", vault.thin(), 0);
            Tests.due("there", GenerationTests.there(vault, 3), "+-+");
        });
        tests.test("9 a proved copy itself is loose ahead of a later proved one", () -> {
            DrillVault vault = GenerationTests.fullsOn(0, 1);
            vault.setRules(0, 0, 0);
            vault.drill(0);
            vault.drill(1);
            Tests.due("thin", vault.thin(), 11);
            Tests.due("there", GenerationTests.there(vault, 2), "-+");
        });
        tests.test("9 damaged copies are loose like others", () -> {
            DrillVault vault = GenerationTests.fullsOn(0, 1);
            vault.setRules(1, 0, 0);
            vault.damage(0);
            vault.drill(1);
            Tests.due("thin", vault.thin(), 11);
        });
    }

    private static void looseToTheEnd(Tests tests) {
        tests.test("9 \"all of whose increments that are there ... are loose, too\"", () -> {
            DrillVault vault = GenerationTests.fullsOn(0);
            vault.pass(1);
            vault.increment();
            vault.drill(vault.full());
            vault.setRules(0, 0, 0);
            Tests.due("the increment is of the day of the proof", vault.thin(), 0);
            vault.pass(1);
            vault.drill(vault.full());
            Tests.due("now it is loose", vault.thin(), 11 + 1 + 11);
        });
        tests.test("9 \"and theirs, and so on\": the last of a long chain holds all of it", () -> {
            DrillVault vault = GenerationTests.fullsOn(0);
            for (int copy = 1; copy < 58; copy++) {
                vault.increment();
            }
            vault.pass(1);
            vault.increment();
            vault.drill(vault.full());
            vault.setRules(0, 0, 0);
            Tests.due("58 is of the day of 59", vault.thin(), 0);
            Tests.due("copies", vault.copies(), 60);
        });
        tests.test("9 \"and theirs, and so on\": a whole chain of 59 is taken off", () -> {
            DrillVault vault = GenerationTests.fullsOn(0);
            for (int copy = 1; copy < 59; copy++) {
                vault.increment();
            }
            vault.pass(1);
            vault.drill(vault.full());
            vault.setRules(0, 0, 0);
            Tests.due("thin", vault.thin(), 11 + 58);
            Tests.due("copies", vault.copies(), 1);
        });
    }

    private static void looseBehindANeededOne(Tests tests) {
        tests.test("9 loose increments behind a needed copy are taken off, the needed one is not", () -> {
            DrillVault vault = GenerationTests.fullsOn(0);
            vault.pass(6);
            vault.increment();
            vault.pass(1);
            vault.increment();
            vault.increment();
            vault.pass(1);
            vault.drill(vault.full());
            // The week 0 has the copies 0 and 1, the week 1 the copies 2 to 4.
            vault.setRules(0, 2, 0);
            Tests.due("thin", vault.thin(), 2);
            Tests.due("there", GenerationTests.there(vault, 5), "++--+");
        });
        tests.test("9 \"all of whose increments that are there\": those taken off hold nothing", () -> {
            // The full copy 0 is of the week 0, its increment 1 and the copy 2 are of the week 1.
            DrillVault vault = GenerationTests.fullsOn(0);
            vault.pass(7);
            vault.increment();
            vault.pass(1);
            vault.drill(vault.full());
            vault.setRules(0, 2, 0);
            Tests.due("the increment is taken off", vault.thin(), 1);
            Tests.due("there", GenerationTests.there(vault, 3), "+-+");
            vault.setRules(1, 0, 0);
            Tests.due("the full copy is taken off", vault.thin(), 11);
            Tests.due("there", GenerationTests.there(vault, 3), "--+");
        });
    }

    private static void allAtOnce(Tests tests) {
        tests.test("9 \"Thinning takes off, all at once\": one call is enough", () -> {
            DrillVault vault = new DrillVault();
            int space = 0;
            for (int copy = 0; copy < 59; copy++) {
                vault.change(copy % 10, copy);
                int made = copy % 6 == 0 ? vault.full() : vault.increment();
                vault.pass(1 + copy % 3);
                space += 1 + vault.keeps(made);
            }
            vault.drill(vault.full());
            vault.setRules(1, 1, 1);
            Tests.due("thin", vault.thin(), space);
            Tests.due("copies", vault.copies(), 1);
            Tests.due("thin again", vault.thin(), 0);
        });
        tests.test("9 \"Thinning takes off\" of an empty store and of a store of one", () -> {
            Tests.due("empty", new DrillVault().thin(), 0);
            DrillVault vault = new DrillVault();
            vault.setRules(0, 0, 0);
            vault.drill(vault.full());
            Tests.due("one", vault.thin(), 0);
            vault.pass(30);
            Tests.due("days later", vault.thin(), 0);
            Tests.due("copies", vault.copies(), 1);
        });
        tests.test("9 a full store: 59 of 60 are taken off, and numbers are not given again", () -> {
            DrillVault vault = new DrillVault();
            Edges.fullTimes(vault, 59);
            vault.pass(1);
            vault.drill(vault.full());
            Tests.due("the last one of the day 0 is promised", vault.thin(), 58 * 11);
            vault.setRules(1, 1, 1);
            Tests.due("no more", vault.thin(), 11);
            Tests.due("copies", vault.copies(), 1);
            Tests.dueThrow("full", Edges.STATE, vault::full);
            DrillVault few = Tests.vault(Edges.THINNED);
            Tests.due("the next number", few.full(), 3);
        });
    }
}
