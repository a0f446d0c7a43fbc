/** Promises 1 to 7: files, days, copies, damage and drills. */
final class CopyTests {
    private CopyTests() {
    }

    static void addTo(Tests tests) {
        newObjects(tests);
        changes(tests);
        passing(tests);
        fulls(tests);
        increments(tests);
        damages(tests);
        drills(tests);
    }

    private static void newObjects(Tests tests) {
        tests.test("1 objects have nothing in common", () -> {
            DrillVault one = Tests.vault(Edges.SOME);
            DrillVault other = new DrillVault();
            Tests.due("copies of one", one.copies(), 5);
            Tests.due("copies of the other", other.copies(), 0);
            Tests.due("content of the other", other.change(0, 1), 0);
            Tests.due("on call of the other", other.onCall(30), 0);
        });
    }

    private static void changes(Tests tests) {
        tests.test("2 change returns the content before, for every file", () -> {
            DrillVault vault = new DrillVault();
            for (int file = 0; file < 10; file++) {
                Tests.due("first change of " + file, vault.change(file, 50 + file), 0);
            }
            for (int file = 0; file < 10; file++) {
                Tests.due("second change of " + file, vault.change(file, 0), 50 + file);
                Tests.due("third change of " + file, vault.change(file, 99), 0);
                Tests.due("the same again of " + file, vault.change(file, 99), 99);
            }
        });
    }

    private static void passing(Tests tests) {
        tests.test("3 pass returns the day then", () -> {
            DrillVault vault = new DrillVault();
            Tests.due("pass 1", vault.pass(1), 1);
            Tests.due("pass 30", vault.pass(30), 31);
            Tests.due("pass 7", vault.pass(7), 38);
            Tests.due("day", vault.day(), 38);
        });
    }

    private static void fulls(Tests tests) {
        tests.test("4 full returns numbers in order and keeps all contents", () -> {
            DrillVault vault = new DrillVault();
            vault.change(3, 33);
            Tests.due("full", vault.full(), 0);
            vault.change(3, 34);
            Tests.due("increment", vault.increment(), 1);
            vault.pass(2);
            Tests.due("full", vault.full(), 2);
            Tests.due("keeps", vault.keeps(2), 10);
            Tests.due("base", vault.baseOf(2), -1);
            Tests.due("day", vault.dayOf(2), 2);
            Tests.due("restore", vault.restore(2, 3), 34);
            Tests.due("restore of the first", vault.restore(0, 3), 33);
            Tests.due("space", vault.space(), 11 + 2 + 11);
            Tests.due("proved", vault.isProved(2), false);
        });
    }

    private static void increments(Tests tests) {
        tests.test("5 increment has the latest copy as its base", () -> {
            DrillVault vault = new DrillVault();
            vault.full();
            Tests.due("increment", vault.increment(), 1);
            Tests.due("base of 1", vault.baseOf(1), 0);
            Tests.due("increment", vault.increment(), 2);
            Tests.due("base of 2", vault.baseOf(2), 1);
            vault.full();
            vault.damage(3);
            vault.increment();
            Tests.due("base of 4", vault.baseOf(4), 3);
        });
        tests.test("5 increment keeps the files that changed since its base was made", () -> {
            DrillVault vault = new DrillVault();
            vault.change(0, 1);
            vault.full();
            vault.increment();
            Tests.due("nothing changed", vault.keeps(1), 0);
            vault.change(0, 2);
            vault.change(0, 3);
            vault.change(9, 4);
            vault.increment();
            Tests.due("two files changed", vault.keeps(2), 2);
            Tests.due("restore 0", vault.restore(2, 0), 3);
            Tests.due("restore 9", vault.restore(2, 9), 4);
            vault.increment();
            Tests.due("nothing since", vault.keeps(3), 0);
            Tests.due("restore 0 of the next", vault.restore(3, 0), 3);
            for (int file = 0; file < 10; file++) {
                vault.change(file, 60);
            }
            vault.increment();
            Tests.due("all files changed", vault.keeps(4), 10);
            Tests.due("yet an increment", vault.baseOf(4), 3);
            Tests.due("space", vault.space(), 11 + 1 + 3 + 1 + 11);
        });
    }

    private static void damages(Tests tests) {
        tests.test("6 damage tells the promised copies that a damaged one is in the chains of", () -> {
            DrillVault vault = new DrillVault();
            vault.full();
            vault.pass(1);
            vault.increment();
            vault.pass(1);
            vault.increment();
            vault.pass(1);
            vault.full();
            vault.setRules(3, 0, 0);
            Tests.due("damage 2", vault.damage(2), 1);
            Tests.due("damage 2 again", vault.damage(2), 1);
            Tests.due("damage 0, which is not promised", vault.damage(0), 2);
            Tests.due("damage 3", vault.damage(3), 3);
            vault.setRules(1, 0, 0);
            Tests.due("damage 1", vault.damage(1), 1);
            vault.setRules(0, 0, 0);
            Tests.due("none is promised", vault.damage(1), 0);
        });
        tests.test("6 damage of a copy that nothing promised rests on", () -> {
            DrillVault vault = new DrillVault();
            vault.full();
            vault.full();
            vault.increment();
            Tests.due("damage 0", vault.damage(0), 0);
            Tests.due("damage 1", vault.damage(1), 1);
        });
    }

    private static void drills(Tests tests) {
        tests.test("7 drill returns the length of the chain and proves all of it, and nothing else", () -> {
            DrillVault vault = new DrillVault();
            vault.full();
            vault.full();
            vault.increment();
            vault.increment();
            vault.increment();
            Tests.due("drill 3", vault.drill(3), 3);
            Tests.due("proved 0", vault.isProved(0), false);
            Tests.due("proved 1", vault.isProved(1), true);
            Tests.due("proved 2", vault.isProved(2), true);
            Tests.due("proved 3", vault.isProved(3), true);
            Tests.due("proved 4", vault.isProved(4), false);
            Tests.due("drill 0", vault.drill(0), 1);
            Tests.due("drill 4", vault.drill(4), 4);
            Tests.due("drill 4 again", vault.drill(4), 4);
        });
        tests.test("7 a drill that fails proves nothing, and its chain is proved no more", () -> {
            DrillVault vault = new DrillVault();
            vault.full();
            vault.increment();
            vault.increment();
            vault.full();
            vault.drill(2);
            vault.drill(3);
            vault.damage(1);
            Tests.due("drill 0, behind the damage", vault.drill(0), 1);
            Tests.due("proved 2 still", vault.isProved(2), true);
            Tests.due("drill 2", vault.drill(2), -1);
            Tests.due("proved 0", vault.isProved(0), false);
            Tests.due("proved 1", vault.isProved(1), false);
            Tests.due("proved 2", vault.isProved(2), false);
            Tests.due("proved 3", vault.isProved(3), true);
            Tests.due("drill 1", vault.drill(1), -1);
            Tests.due("drill 0", vault.drill(0), 1);
            Tests.due("proved 0 again", vault.isProved(0), true);
        });
        tests.test("7 a failing drill leaves the increments beyond the drilled copy as they were", () -> {
            DrillVault vault = new DrillVault();
            vault.full();
            vault.increment();
            vault.increment();
            vault.drill(2);
            vault.damage(0);
            Tests.due("drill 1", vault.drill(1), -1);
            Tests.due("proved 1", vault.isProved(1), false);
            Tests.due("proved 2", vault.isProved(2), true);
        });
    }
}
