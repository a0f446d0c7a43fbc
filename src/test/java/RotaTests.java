/** Promises 21 to 23: who is on call, swaps with rest, alarms that go on to the next one. */
final class RotaTests {
    private RotaTests() {
    }

    static void addTo(Tests tests) {
        onCall(tests);
        swaps(tests);
        alarms(tests);
    }

    private static void onCall(Tests tests) {
        tests.test("21 onCall: also of days that are gone", () -> {
            DrillVault vault = new DrillVault();
            vault.swap(1, 6);
            vault.swap(3, 5);
            Edges.passTo(vault, 360);
            Tests.due("onCall 3", vault.onCall(3), 0);
            Tests.due("onCall 5", vault.onCall(5), 3);
            Tests.due("onCall 364", vault.onCall(364), 4);
        });
    }

    private static void swaps(Tests tests) {
        tests.test("22 swap exchanges two days and returns who is on the first one named", () -> {
            DrillVault vault = new DrillVault();
            Tests.due("swap 3 5", vault.swap(3, 5), 0);
            Tests.due("onCall 3", vault.onCall(3), 0);
            Tests.due("onCall 4", vault.onCall(4), 4);
            Tests.due("onCall 5", vault.onCall(5), 3);
            Tests.due("swap 5 3, back", vault.swap(5, 3), 0);
            Tests.due("onCall 3", vault.onCall(3), 3);
            Tests.due("swap 20 10, of one person", vault.swap(20, 10), 0);
            Tests.due("two days that follow one another", vault.swap(30, 31), 1);
            Tests.due("onCall 31", vault.onCall(31), 0);
        });
    }

    private static void alarms(Tests tests) {
        tests.test("23 alarm: the first who answers of today and three days on", () -> {
            DrillVault vault = new DrillVault();
            for (int answering = 0; answering <= 31; answering++) {
                int want = -1;
                for (int person = 3; person >= 0; person--) {
                    want = answering / (1 << person) % 2 == 1 ? person : want;
                }
                Tests.due("alarm " + answering, vault.alarm(answering), want);
            }
            vault.pass(3);
            Tests.due("3 is on call", vault.alarm(31), 3);
            Tests.due("4 is next", vault.alarm(31 - 8), 4);
            Tests.due("0 is next", vault.alarm(1 + 2 + 4), 0);
            Tests.due("1 is three days on", vault.alarm(2 + 4), 1);
            Tests.due("2 is four days on", vault.alarm(4), -1);
        });
    }
}
