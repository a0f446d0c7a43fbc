/** Promises 8 and 9: the rules of the generations, and what is taken off. */
final class GenerationTests {
    private GenerationTests() {
    }

    static void addTo(Tests tests) {
        rules(tests);
        periods(tests);
        thinning(tests);
        thinningOfChains(tests);
    }

    /** A full copy on each of the days. */
    static DrillVault fullsOn(int... days) {
        DrillVault vault = new DrillVault();
        for (int day : days) {
            Edges.passTo(vault, day);
            vault.full();
        }
        return vault;
    }

    static String promised(DrillVault vault, int copies) {
        StringBuilder seen = new StringBuilder();
        for (int copy = 0; copy < copies; copy++) {
            seen.append(vault.isPromised(copy) ? '+' : '-');
        }
        return seen.toString();
    }

    static String needed(DrillVault vault, int copies) {
        StringBuilder seen = new StringBuilder();
        for (int copy = 0; copy < copies; copy++) {
            seen.append(vault.isNeeded(copy) ? '+' : '-');
        }
        return seen.toString();
    }

    /** Which copies are there. */
    static String there(DrillVault vault, int copies) {
        StringBuilder seen = new StringBuilder();
        for (int copy = 0; copy < copies; copy++) {
            int number = copy;
            seen.append(Looks.outcome(() -> vault.dayOf(number)).startsWith("throws") ? '-' : '+');
        }
        return seen.toString();
    }

    private static void rules(Tests tests) {
        tests.test("8 setRules returns how many copies are promised then", () -> {
            DrillVault vault = fullsOn(0, 0, 1, 8, 9, 40);
            Tests.due("0 0 0", vault.setRules(0, 0, 0), 0);
            Tests.due("1 0 0", vault.setRules(1, 0, 0), 1);
            Tests.due("1 1 1, all the same copy", vault.setRules(1, 1, 1), 1);
            Tests.due("2 0 0", vault.setRules(2, 0, 0), 2);
            Tests.due("30 0 0", vault.setRules(30, 0, 0), 5);
            Tests.due("0 20 0", vault.setRules(0, 20, 0), 3);
            Tests.due("0 0 12", vault.setRules(0, 0, 12), 2);
            Tests.due("30 20 12", vault.setRules(30, 20, 12), 5);
            Tests.due("no copies", new DrillVault().setRules(30, 20, 12), 0);
        });
    }

    private static void periods(Tests tests) {
        tests.test("8 the last copy of each of the latest days", () -> {
            DrillVault vault = fullsOn(0, 0, 2, 5, 5, 5);
            vault.setRules(2, 0, 0);
            Tests.due("two days", promised(vault, 6), "--+--+");
            vault.setRules(3, 0, 0);
            Tests.due("three days", promised(vault, 6), "-++--+");
            vault.full();
            Tests.due("a later one of the day", promised(vault, 7), "-++---+");
            vault.pass(30);
            Tests.due("days without copies do not count", promised(vault, 7), "-++---+");
        });
        tests.test("8 weeks are days 7 w to 7 w + 6", () -> {
            DrillVault vault = fullsOn(0, 6, 7, 13, 14, 35);
            vault.setRules(0, 4, 0);
            Tests.due("four weeks", promised(vault, 6), "-+-+++");
            vault.setRules(0, 3, 0);
            Tests.due("three weeks", promised(vault, 6), "---+++");
        });
        tests.test("8 months are days 28 m to 28 m + 27", () -> {
            DrillVault vault = fullsOn(0, 27, 28, 55, 56, 140);
            vault.setRules(0, 0, 4);
            Tests.due("four months", promised(vault, 6), "-+-+++");
            vault.setRules(0, 0, 2);
            Tests.due("two months", promised(vault, 6), "----++");
        });
        tests.test("8 increments and damaged copies are promised like any other", () -> {
            DrillVault vault = fullsOn(0);
            vault.pass(1);
            vault.increment();
            vault.damage(1);
            Tests.due("setRules", vault.setRules(1, 0, 0), 1);
            Tests.due("promised", promised(vault, 2), "-+");
        });
        tests.test("8 copies that were taken off make room for none", () -> {
            DrillVault vault = fullsOn(0, 1, 2, 3);
            vault.setRules(2, 0, 0);
            vault.drill(3);
            Tests.due("thin", vault.thin(), 22);
            Tests.due("three days, two of them there", vault.setRules(3, 0, 0), 2);
        });
    }

    private static void thinning(Tests tests) {
        tests.test("9 nothing is taken off without a proved copy on a later day", () -> {
            DrillVault vault = fullsOn(0, 0, 1, 2);
            vault.setRules(0, 0, 0);
            Tests.due("nothing proved", vault.thin(), 0);
            vault.drill(0);
            Tests.due("proved on the day 0", vault.thin(), 0);
            vault.drill(2);
            Tests.due("proved on the day 1", vault.thin(), 22);
            Tests.due("there", there(vault, 4), "--++");
            Tests.due("copies", vault.copies(), 2);
            Tests.due("space", vault.space(), 22);
            Tests.due("nothing more", vault.thin(), 0);
        });
        tests.test("9 the proved copy must still be proved and there", () -> {
            DrillVault vault = fullsOn(0, 1);
            vault.setRules(0, 0, 0);
            vault.drill(1);
            vault.damage(1);
            Tests.due("proved no more", vault.thin(), 0);
            DrillVault failed = fullsOn(0);
            failed.pass(1);
            failed.full();
            failed.increment();
            failed.setRules(0, 0, 0);
            failed.drill(2);
            failed.damage(1);
            Tests.due("a proved increment is enough", there(failed, 3), "+++");
            failed.drill(2);
            Tests.due("no proof left", failed.thin(), 0);
        });
        tests.test("9 needed copies stay", () -> {
            DrillVault vault = fullsOn(0);
            vault.pass(1);
            vault.increment();
            vault.pass(1);
            vault.full();
            vault.pass(1);
            vault.full();
            vault.drill(3);
            vault.setRules(3, 0, 0);
            Tests.due("needed", needed(vault, 4), "++++");
            Tests.due("thin", vault.thin(), 0);
            vault.setRules(2, 0, 0);
            Tests.due("needed", needed(vault, 4), "--++");
            Tests.due("thin", vault.thin(), 12);
            Tests.due("there", there(vault, 4), "--++");
        });
    }

    private static void thinningOfChains(Tests tests) {
        tests.test("9 a loose copy stays as long as an increment on it is not loose", () -> {
            // 0 full, 1 and 2 increments: 2 is made on the day of the proof, so it is not loose.
            DrillVault vault = fullsOn(0);
            vault.increment();
            vault.pass(1);
            vault.increment();
            vault.drill(vault.full());
            vault.setRules(0, 0, 0);
            Tests.due("needed", needed(vault, 4), "----");
            Tests.due("thin", vault.thin(), 0);
            Tests.due("there", there(vault, 4), "++++");
            vault.pass(1);
            vault.drill(vault.full());
            Tests.due("all loose now", vault.thin(), 11 + 1 + 1 + 11);
            Tests.due("there", there(vault, 5), "----+");
        });
        tests.test("9 loose increments at the end of a needed chain are taken off", () -> {
            DrillVault vault = fullsOn(0);
            vault.pass(1);
            vault.change(1, 1);
            vault.increment();
            vault.pass(6);
            vault.increment();
            vault.pass(1);
            vault.drill(vault.full());
            vault.setRules(0, 2, 0);
            // The week 0 has the copies 0 and 1, the week 1 the copies 2 and 3.
            Tests.due("needed", needed(vault, 4), "++-+");
            Tests.due("thin takes 2 off", vault.thin(), 1);
            Tests.due("there", there(vault, 4), "++-+");
            Tests.due("space", vault.space(), 11 + 2 + 11);
            Tests.due("the base of an increment now", vault.baseOf(vault.increment()), 3);
        });
        tests.test("9 numbers are not given again, and a thinned store goes on", () -> {
            DrillVault vault = fullsOn(0, 1, 2);
            vault.setRules(1, 0, 0);
            vault.drill(2);
            Tests.due("thin", vault.thin(), 22);
            Tests.due("full", vault.full(), 3);
            Tests.due("increment", vault.increment(), 4);
            Tests.due("there", there(vault, 5), "--+++");
            Tests.due("of one day, none is ahead", vault.thin(), 0);
            vault.pass(1);
            vault.drill(vault.increment());
            Tests.due("2 is loose, 3 and 4 are needed", vault.thin(), 11);
            Tests.due("there", there(vault, 6), "---+++");
        });
        tests.test("9 the last of 60 copies holds its base", () -> {
            DrillVault vault = new DrillVault();
            Edges.fullTimes(vault, 59);
            vault.pass(1);
            vault.drill(vault.increment());
            vault.setRules(0, 0, 0);
            Tests.due("thin", vault.thin(), 58 * 11);
            Tests.due("58 is there", vault.dayOf(58), 0);
            Tests.due("chain of 59", vault.drill(59), 2);
        });
    }
}
