/** Promises 1 to 7: files, days, copies, damage and drills. */
final class CopyTests {
    private static final Class<IndexOutOfBoundsException> OUT = IndexOutOfBoundsException.class;
    private static final Class<IllegalArgumentException> ARGUMENT = IllegalArgumentException.class;
    private static final Class<IllegalStateException> STATE = IllegalStateException.class;

    /** Two chains, some of it proved, damaged and changed since. */
    static final Tests.Deed SOME = vault -> {
        vault.change(0, 10);
        vault.full();
        vault.change(1, 11);
        vault.increment();
        vault.pass(3);
        vault.change(1, 12);
        vault.change(2, 0);
        vault.increment();
        vault.drill(1);
        vault.pass(5);
        vault.full();
        vault.change(9, 99);
        vault.increment();
        vault.damage(3);
        vault.change(4, 44);
        vault.swap(20, 25);
        vault.swap(30, 32);
    };

    private CopyTests() {
    }

    static void addTo(Tests tests) {
        newObjects(tests);
        changes(tests);
        passing(tests);
        fulls(tests);
        increments(tests);
        damages(tests);
        drills(tests);
    }

    static void changeTimes(DrillVault vault, int times) {
        for (int i = 0; i < times; i++) {
            vault.change(i % 10, i % 100);
        }
    }

    static void fullTimes(DrillVault vault, int times) {
        for (int i = 0; i < times; i++) {
            vault.full();
        }
    }

    static void passTo(DrillVault vault, int day) {
        while (vault.day() < day) {
            vault.pass(Math.min(30, day - vault.day()));
        }
    }

    private static void newObjects(Tests tests) {
        tests.test("1 a new object has no copies and the day 0", () -> {
            DrillVault vault = new DrillVault();
            Tests.due("day", vault.day(), 0);
            Tests.due("copies", vault.copies(), 0);
            Tests.due("space", vault.space(), 0);
            for (int copy = -1; copy <= 60; copy++) {
                int number = copy;
                Tests.dueThrow("dayOf " + copy, OUT, () -> vault.dayOf(number));
            }
            Tests.due("thin", vault.thin(), 0);
            Tests.due("full", vault.full(), 0);
            for (int file = 0; file < 10; file++) {
                Tests.due("restore " + file, vault.restore(0, file), 0);
            }
        });
        tests.test("1 a new object has the rules 3, 2, 1", () -> {
            DrillVault vault = new DrillVault();
            // The days 0, 28, 56 and so on are each in a month and a week of its own.
            for (int i = 0; i < 5; i++) {
                vault.full();
                vault.pass(28);
            }
            Tests.due("promised 1", vault.isPromised(1), false);
            Tests.due("promised 2", vault.isPromised(2), true);
            DrillVault weeks = new DrillVault();
            for (int day = 0; day < 21; day++) {
                weeks.full();
                weeks.pass(1);
            }
            String promised = "";
            for (int copy = 0; copy < 21; copy++) {
                promised += weeks.isPromised(copy) ? copy + " " : "";
            }
            Tests.due("promised of 21 days", promised, "13 18 19 20 ");
            DrillVault months = GenerationTests.fullsOn(27, 35, 42, 43, 44);
            Tests.due("of two months only the latest", GenerationTests.promised(months, 5), "-++++");
        });
        tests.test("1 objects have nothing in common", () -> {
            DrillVault one = Tests.vault(SOME);
            DrillVault other = new DrillVault();
            Tests.due("copies of one", one.copies(), 5);
            Tests.due("copies of the other", other.copies(), 0);
            Tests.due("content of the other", other.change(0, 1), 0);
            Tests.due("on call of the other", other.onCall(30), 0);
        });
    }

    private static void changes(Tests tests) {
        tests.test("2 change returns the content before, for every file", () -> {
            DrillVault vault = new DrillVault();
            for (int file = 0; file < 10; file++) {
                Tests.due("first change of " + file, vault.change(file, 50 + file), 0);
            }
            for (int file = 0; file < 10; file++) {
                Tests.due("second change of " + file, vault.change(file, 0), 50 + file);
                Tests.due("third change of " + file, vault.change(file, 99), 0);
                Tests.due("the same again of " + file, vault.change(file, 99), 99);
            }
        });
        tests.test("2 change refuses files and contents out of range", () -> {
            for (int file : new int[] {-1, 10, Integer.MIN_VALUE, Integer.MAX_VALUE}) {
                Tests.refused("change(" + file + ", 5)", OUT, SOME, vault -> vault.change(file, 5));
            }
            for (int content : new int[] {-1, 100, Integer.MIN_VALUE, Integer.MAX_VALUE}) {
                Tests.refused("change(0, " + content + ")", ARGUMENT, SOME, vault -> vault.change(0, content));
                Tests.refused("change(9, " + content + ")", ARGUMENT, SOME, vault -> vault.change(9, content));
            }
        });
        tests.test("2 change: the file is looked at ahead of the content, the content ahead of the 300", () -> {
            Tests.refused("change(10, 100)", OUT, SOME, vault -> vault.change(10, 100));
            Tests.Deed all = vault -> changeTimes(vault, 300);
            Tests.refused("change(-1, -1) after 300", OUT, all, vault -> vault.change(-1, -1));
            Tests.refused("change(10, 5) after 300", OUT, all, vault -> vault.change(10, 5));
            Tests.refused("change(0, 100) after 300", ARGUMENT, all, vault -> vault.change(0, 100));
        });
        tests.test("2 change: 300 changes, and not one more", () -> {
            DrillVault vault = new DrillVault();
            changeTimes(vault, 299);
            Tests.due("the last change", vault.change(3, 77), 93);
            Tests.refused("one more", STATE, each -> {
                each.full();
                changeTimes(each, 300);
            }, each -> each.change(0, 0));
            vault.full();
            Tests.due("the last one is restored", vault.restore(0, 3), 77);
            Tests.due("the last one by changes", vault.restoreByChanges(0, 3), 77);
        });
        tests.test("2 change: a refused change does not count as one of the 300", () -> {
            DrillVault vault = new DrillVault();
            changeTimes(vault, 299);
            Tests.dueThrow("no file", OUT, () -> vault.change(10, 0));
            Tests.dueThrow("no content", ARGUMENT, () -> vault.change(0, 100));
            Tests.due("the last change", vault.change(0, 1), 90);
            Tests.dueThrow("one more", STATE, () -> vault.change(0, 1));
        });
    }

    private static void passing(Tests tests) {
        tests.test("3 pass returns the day then", () -> {
            DrillVault vault = new DrillVault();
            Tests.due("pass 1", vault.pass(1), 1);
            Tests.due("pass 30", vault.pass(30), 31);
            Tests.due("pass 7", vault.pass(7), 38);
            Tests.due("day", vault.day(), 38);
        });
        tests.test("3 pass refuses days out of range", () -> {
            for (int days : new int[] {0, -1, 31, Integer.MIN_VALUE, Integer.MAX_VALUE}) {
                Tests.refused("pass(" + days + ")", ARGUMENT, SOME, vault -> vault.pass(days));
                Tests.refused("pass(" + days + ") on the last day", ARGUMENT, vault -> passTo(vault, 360),
                        vault -> vault.pass(days));
            }
        });
        tests.test("3 pass goes to the day 360 and no further", () -> {
            DrillVault vault = new DrillVault();
            passTo(vault, 330);
            Tests.due("pass 30", vault.pass(30), 360);
            Tests.refused("pass(1) on 360", STATE, each -> passTo(each, 360), each -> each.pass(1));
            Tests.refused("pass(30) on 331", STATE, each -> passTo(each, 331), each -> each.pass(30));
            DrillVault other = new DrillVault();
            passTo(other, 331);
            Tests.dueThrow("pass 30 on 331", STATE, () -> other.pass(30));
            Tests.due("pass 29 on 331", other.pass(29), 360);
        });
    }

    private static void fulls(Tests tests) {
        tests.test("4 full returns numbers in order and keeps all contents", () -> {
            DrillVault vault = new DrillVault();
            vault.change(3, 33);
            Tests.due("full", vault.full(), 0);
            vault.change(3, 34);
            Tests.due("increment", vault.increment(), 1);
            vault.pass(2);
            Tests.due("full", vault.full(), 2);
            Tests.due("keeps", vault.keeps(2), 10);
            Tests.due("base", vault.baseOf(2), -1);
            Tests.due("day", vault.dayOf(2), 2);
            Tests.due("restore", vault.restore(2, 3), 34);
            Tests.due("restore of the first", vault.restore(0, 3), 33);
            Tests.due("space", vault.space(), 11 + 2 + 11);
            Tests.due("proved", vault.isProved(2), false);
        });
        tests.test("4 full: 60 copies, and not one more", () -> {
            DrillVault vault = new DrillVault();
            fullTimes(vault, 59);
            Tests.due("the last one", vault.full(), 59);
            Tests.due("copies", vault.copies(), 60);
            Tests.due("space", vault.space(), 660);
            Tests.due("day of the last one", vault.dayOf(59), 0);
            Tests.refused("one more", STATE, each -> fullTimes(each, 60), DrillVault::full);
        });
        tests.test("4 full: copies that were taken off count among the 60", () -> {
            Tests.Deed thinned = vault -> {
                fullTimes(vault, 59);
                vault.pass(30);
                vault.drill(vault.full());
                vault.setRules(0, 0, 0);
                vault.thin();
            };
            Tests.due("copies", Tests.vault(thinned).copies(), 1);
            Tests.refused("one more full copy", STATE, thinned, DrillVault::full);
            Tests.refused("one more increment", STATE, thinned, DrillVault::increment);
        });
    }

    private static void increments(Tests tests) {
        tests.test("5 increment has the latest copy as its base", () -> {
            DrillVault vault = new DrillVault();
            vault.full();
            Tests.due("increment", vault.increment(), 1);
            Tests.due("base of 1", vault.baseOf(1), 0);
            Tests.due("increment", vault.increment(), 2);
            Tests.due("base of 2", vault.baseOf(2), 1);
            vault.full();
            vault.damage(3);
            vault.increment();
            Tests.due("base of 4", vault.baseOf(4), 3);
        });
        tests.test("5 increment keeps the files that changed since its base was made", () -> {
            DrillVault vault = new DrillVault();
            vault.change(0, 1);
            vault.full();
            vault.increment();
            Tests.due("nothing changed", vault.keeps(1), 0);
            vault.change(0, 2);
            vault.change(0, 3);
            vault.change(9, 4);
            vault.increment();
            Tests.due("two files changed", vault.keeps(2), 2);
            Tests.due("restore 0", vault.restore(2, 0), 3);
            Tests.due("restore 9", vault.restore(2, 9), 4);
            vault.increment();
            Tests.due("nothing since", vault.keeps(3), 0);
            Tests.due("restore 0 of the next", vault.restore(3, 0), 3);
            for (int file = 0; file < 10; file++) {
                vault.change(file, 60);
            }
            vault.increment();
            Tests.due("all files changed", vault.keeps(4), 10);
            Tests.due("yet an increment", vault.baseOf(4), 3);
            Tests.due("space", vault.space(), 11 + 1 + 3 + 1 + 11);
        });
        tests.test("5 increment keeps a file changed to the same content, or back again", () -> {
            DrillVault vault = new DrillVault();
            vault.full();
            vault.change(5, 0);
            vault.increment();
            Tests.due("to the same", vault.keeps(1), 1);
            vault.change(6, 1);
            vault.change(6, 0);
            vault.increment();
            Tests.due("and back", vault.keeps(2), 1);
        });
        tests.test("5 increment: no copy is there", () -> {
            Tests.refused("increment", STATE, vault -> {
            }, DrillVault::increment);
            Tests.refused("increment after changes", STATE, vault -> {
                vault.change(1, 1);
                vault.pass(4);
            }, DrillVault::increment);
        });
        tests.test("5 increment: 60 copies, and not one more", () -> {
            DrillVault vault = new DrillVault();
            vault.full();
            for (int i = 1; i < 60; i++) {
                vault.change(i % 10, i);
                Tests.due("increment", vault.increment(), i);
            }
            Tests.due("base of the last", vault.baseOf(59), 58);
            Tests.due("chain of the last", vault.drill(59), 60);
            Tests.dueThrow("one more", STATE, vault::increment);
            Tests.refused("one more", STATE, each -> {
                fullTimes(each, 59);
                each.increment();
            }, DrillVault::increment);
        });
    }

    private static void damages(Tests tests) {
        tests.test("6 damage tells the promised copies that a damaged one is in the chains of", () -> {
            DrillVault vault = new DrillVault();
            vault.full();
            vault.pass(1);
            vault.increment();
            vault.pass(1);
            vault.increment();
            vault.pass(1);
            vault.full();
            vault.setRules(3, 0, 0);
            Tests.due("damage 2", vault.damage(2), 1);
            Tests.due("damage 2 again", vault.damage(2), 1);
            Tests.due("damage 0, which is not promised", vault.damage(0), 2);
            Tests.due("damage 3", vault.damage(3), 3);
            vault.setRules(1, 0, 0);
            Tests.due("damage 1", vault.damage(1), 1);
            vault.setRules(0, 0, 0);
            Tests.due("none is promised", vault.damage(1), 0);
        });
        tests.test("6 damage of a copy that nothing promised rests on", () -> {
            DrillVault vault = new DrillVault();
            vault.full();
            vault.full();
            vault.increment();
            Tests.due("damage 0", vault.damage(0), 0);
            Tests.due("damage 1", vault.damage(1), 1);
        });
        tests.test("6 a damaged copy is proved no more, others still are", () -> {
            DrillVault vault = new DrillVault();
            vault.full();
            vault.increment();
            vault.increment();
            vault.drill(2);
            vault.damage(1);
            Tests.due("proved 0", vault.isProved(0), true);
            Tests.due("proved 1", vault.isProved(1), false);
            Tests.due("proved 2", vault.isProved(2), true);
            Tests.due("drill 0", vault.drill(0), 1);
            Tests.due("restore goes on", vault.restore(2, 0), 0);
        });
        tests.test("6 damage: no such copy", () -> noSuchCopy("damage", DrillVault::damage));
    }

    private static void drills(Tests tests) {
        tests.test("7 drill returns the length of the chain and proves all of it, and nothing else", () -> {
            DrillVault vault = new DrillVault();
            vault.full();
            vault.full();
            vault.increment();
            vault.increment();
            vault.increment();
            Tests.due("drill 3", vault.drill(3), 3);
            Tests.due("proved 0", vault.isProved(0), false);
            Tests.due("proved 1", vault.isProved(1), true);
            Tests.due("proved 2", vault.isProved(2), true);
            Tests.due("proved 3", vault.isProved(3), true);
            Tests.due("proved 4", vault.isProved(4), false);
            Tests.due("drill 0", vault.drill(0), 1);
            Tests.due("drill 4", vault.drill(4), 4);
            Tests.due("drill 4 again", vault.drill(4), 4);
        });
        tests.test("7 a drill that fails proves nothing, and its chain is proved no more", () -> {
            DrillVault vault = new DrillVault();
            vault.full();
            vault.increment();
            vault.increment();
            vault.full();
            vault.drill(2);
            vault.drill(3);
            vault.damage(1);
            Tests.due("drill 0, behind the damage", vault.drill(0), 1);
            Tests.due("proved 2 still", vault.isProved(2), true);
            Tests.due("drill 2", vault.drill(2), -1);
            Tests.due("proved 0", vault.isProved(0), false);
            Tests.due("proved 1", vault.isProved(1), false);
            Tests.due("proved 2", vault.isProved(2), false);
            Tests.due("proved 3", vault.isProved(3), true);
            Tests.due("drill 1", vault.drill(1), -1);
            Tests.due("drill 0", vault.drill(0), 1);
            Tests.due("proved 0 again", vault.isProved(0), true);
        });
        tests.test("7 a failing drill leaves the increments beyond the drilled copy as they were", () -> {
            DrillVault vault = new DrillVault();
            vault.full();
            vault.increment();
            vault.increment();
            vault.drill(2);
            vault.damage(0);
            Tests.due("drill 1", vault.drill(1), -1);
            Tests.due("proved 1", vault.isProved(1), false);
            Tests.due("proved 2", vault.isProved(2), true);
        });
        tests.test("7 drill: no such copy", () -> noSuchCopy("drill", DrillVault::drill));
    }

    /** A call that is about one copy. */
    interface OfCopy {
        void call(DrillVault vault, int copy);
    }

    static void noSuchCopy(String name, OfCopy call) {
        for (int copy : new int[] {-1, 5, 60, Integer.MIN_VALUE, Integer.MAX_VALUE}) {
            Tests.refused(name + "(" + copy + ")", OUT, SOME, vault -> call.call(vault, copy));
        }
        Tests.refused(name + "(0) of a new object", OUT, vault -> {
        }, vault -> call.call(vault, 0));
        Tests.refused(name + "(60) of a full store", OUT, vault -> fullTimes(vault, 60),
                vault -> call.call(vault, 60));
        Tests.Deed thinned = vault -> {
            vault.full();
            vault.increment();
            vault.pass(1);
            vault.setRules(1, 0, 0);
            vault.drill(vault.full());
            vault.thin();
        };
        Tests.refused(name + " of a copy that was taken off", OUT, thinned, vault -> call.call(vault, 0));
        Tests.refused(name + " of an increment that was taken off", OUT, thinned, vault -> call.call(vault, 1));
        call.call(Tests.vault(thinned), 2);
    }
}
