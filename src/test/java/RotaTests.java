/** Promises 21 to 23: who is on call, swaps with rest, alarms that go on to the next one. */
final class RotaTests {
    private static final Class<IllegalArgumentException> ARGUMENT = IllegalArgumentException.class;
    private static final Class<IllegalStateException> STATE = IllegalStateException.class;

    private RotaTests() {
    }

    static void addTo(Tests tests) {
        onCall(tests);
        swaps(tests);
        alarms(tests);
    }

    private static void onCall(Tests tests) {
        tests.test("21 onCall: the day modulo 5", () -> {
            DrillVault vault = new DrillVault();
            for (int day = 0; day <= 364; day++) {
                Tests.due("onCall " + day, vault.onCall(day), day % 5);
            }
        });
        tests.test("21 onCall: also of days that are gone", () -> {
            DrillVault vault = new DrillVault();
            vault.swap(1, 6);
            vault.swap(3, 5);
            CopyTests.passTo(vault, 360);
            Tests.due("onCall 3", vault.onCall(3), 0);
            Tests.due("onCall 5", vault.onCall(5), 3);
            Tests.due("onCall 364", vault.onCall(364), 4);
        });
        tests.test("21 onCall refuses days out of range", () -> {
            for (int day : new int[] {-1, 365, Integer.MIN_VALUE, Integer.MAX_VALUE}) {
                Tests.refused("onCall(" + day + ")", ARGUMENT, CopyTests.SOME, vault -> vault.onCall(day));
            }
        });
    }

    private static void swaps(Tests tests) {
        tests.test("22 swap exchanges two days and returns who is on the first one named", () -> {
            DrillVault vault = new DrillVault();
            Tests.due("swap 3 5", vault.swap(3, 5), 0);
            Tests.due("onCall 3", vault.onCall(3), 0);
            Tests.due("onCall 4", vault.onCall(4), 4);
            Tests.due("onCall 5", vault.onCall(5), 3);
            Tests.due("swap 5 3, back", vault.swap(5, 3), 0);
            Tests.due("onCall 3", vault.onCall(3), 3);
            Tests.due("swap 20 10, of one person", vault.swap(20, 10), 0);
            Tests.due("two days that follow one another", vault.swap(30, 31), 1);
            Tests.due("onCall 31", vault.onCall(31), 0);
        });
        tests.test("22 swap: rest on the day ahead and the day behind, of both days", () -> {
            Tests.Deed none = vault -> {
            };
            Tests.refused("20 gets 4, who is on 19", STATE, none, vault -> vault.swap(20, 24));
            Tests.refused("20 gets 1, who is on 21", STATE, none, vault -> vault.swap(20, 31));
            Tests.refused("the other one, 20, gets 4", STATE, none, vault -> vault.swap(34, 20));
            Tests.refused("the other one, 20, gets 1", STATE, none, vault -> vault.swap(41, 20));
            Tests.due("20 gets 2, 32 gets 0", new DrillVault().swap(20, 32), 2);
            Tests.due("20 gets 3, 33 gets 0", new DrillVault().swap(20, 33), 3);
        });
        tests.test("22 swap: only one of the two days lacks the rest", () -> {
            Tests.Deed build = vault -> vault.swap(50, 52);
            // The days 49 to 53 have 4 2 1 0 3.
            Tests.due("build", Tests.vault(build).onCall(52), 0);
            Tests.refused("80 gets 4, 49 gets 0: only 79 is in the way", STATE, build, vault -> vault.swap(80, 49));
            Tests.refused("the same the other way", STATE, build, vault -> vault.swap(49, 80));
            Tests.refused("60 gets 3, 53 gets 0: only 52 is in the way", STATE, build, vault -> vault.swap(60, 53));
            Tests.refused("72 gets 3, 53 gets 2: only 73 is in the way", STATE, build, vault -> vault.swap(72, 53));
            Tests.refused("the same the other way", STATE, build, vault -> vault.swap(53, 72));
            Tests.due("60 gets 2, 50 gets 0", Tests.vault(build).swap(60, 50), 2);
        });
        tests.test("22 swap: the rest of a day that is gone counts", () -> {
            Tests.Deed gone = vault -> vault.pass(30);
            Tests.refused("30 gets 4, who was on 29", STATE, gone, vault -> vault.swap(30, 34));
            Tests.due("30 gets 3", Tests.vault(gone).swap(30, 33), 3);
        });
        tests.test("22 swap: the first and the last day of the rota", () -> {
            Tests.due("0 gets 4, 364 gets 0", new DrillVault().swap(0, 364), 4);
            Tests.due("364 gets 0", new DrillVault().swap(364, 0), 0);
            Tests.refused("364 gets 3, who is on 363", STATE, vault -> {
            }, vault -> vault.swap(364, 3));
            Tests.refused("0 gets 1, who is on 1", STATE, vault -> {
            }, vault -> vault.swap(0, 6));
            Tests.due("363 gets 4 of 364", new DrillVault().swap(363, 364), 4);
            Tests.due("364 gets 2 of 362", new DrillVault().swap(364, 362), 2);
        });
        tests.test("22 swap refuses days out of range and the same day", () -> {
            Tests.Deed gone = vault -> {
                vault.pass(10);
                vault.swap(11, 13);
            };
            int[][] wrong = {{9, 14}, {14, 9}, {-1, 14}, {14, -1}, {365, 14}, {14, 365}, {0, 20}, {10, 10},
                {364, 364}, {365, 365}, {9, 9}, {Integer.MIN_VALUE, 12}, {12, Integer.MAX_VALUE}};
            for (int[] days : wrong) {
                Tests.refused("swap(" + days[0] + ", " + days[1] + ")", ARGUMENT, gone,
                        vault -> vault.swap(days[0], days[1]));
            }
            Tests.due("the day of now", Tests.vault(gone).swap(10, 20), 0);
            Tests.due("the day of now as the other", Tests.vault(gone).swap(20, 10), 0);
            Tests.due("up to 364", Tests.vault(gone).swap(364, 14), 4);
            Tests.due("up to 364 as the other", Tests.vault(gone).swap(14, 364), 4);
        });
        tests.test("22 swap: today on the last day", () -> {
            DrillVault vault = new DrillVault();
            CopyTests.passTo(vault, 360);
            Tests.dueThrow("359", ARGUMENT, () -> vault.swap(359, 364));
            Tests.dueThrow("360 gets 4, who was on 359", STATE, () -> vault.swap(360, 364));
            Tests.due("360 and 362", vault.swap(360, 362), 2);
        });
    }

    private static void alarms(Tests tests) {
        tests.test("23 alarm: the first who answers of today and three days on", () -> {
            DrillVault vault = new DrillVault();
            for (int answering = 0; answering <= 31; answering++) {
                int want = -1;
                for (int person = 3; person >= 0; person--) {
                    want = answering / (1 << person) % 2 == 1 ? person : want;
                }
                Tests.due("alarm " + answering, vault.alarm(answering), want);
            }
            vault.pass(3);
            Tests.due("3 is on call", vault.alarm(31), 3);
            Tests.due("4 is next", vault.alarm(31 - 8), 4);
            Tests.due("0 is next", vault.alarm(1 + 2 + 4), 0);
            Tests.due("1 is three days on", vault.alarm(2 + 4), 1);
            Tests.due("2 is four days on", vault.alarm(4), -1);
        });
        tests.test("23 alarm goes by the swaps", () -> {
            DrillVault vault = new DrillVault();
            vault.swap(0, 8);
            Tests.due("3 today", vault.alarm(8 + 2), 3);
            Tests.due("1 tomorrow", vault.alarm(2), 1);
            Tests.due("0 not until the day 5", vault.alarm(1), -1);
            DrillVault twice = new DrillVault();
            twice.swap(3, 5);
            Tests.due("0 today", twice.alarm(1), 0);
            Tests.due("3 not until the day 5", twice.alarm(8), -1);
        });
        tests.test("23 alarm on the last day", () -> {
            DrillVault vault = new DrillVault();
            CopyTests.passTo(vault, 360);
            Tests.due("0", vault.alarm(31), 0);
            Tests.due("3 on 363", vault.alarm(8), 3);
            Tests.due("4 on 364 is too far", vault.alarm(16), -1);
        });
        tests.test("23 alarm refuses sets out of range", () -> {
            for (int answering : new int[] {-1, 32, Integer.MIN_VALUE, Integer.MAX_VALUE}) {
                Tests.refused("alarm(" + answering + ")", ARGUMENT, CopyTests.SOME, vault -> vault.alarm(answering));
            }
        });
    }
}
