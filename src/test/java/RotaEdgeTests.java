/** The edges of promises 21 to 23, a test for each sentence that names one. */
final class RotaEdgeTests {
    /** The days 49 to 53 have the persons 4 2 1 0 3. */
    private static final Tests.Deed SWAPPED = vault -> vault.swap(50, 52);

    /** The day 10, where the day 10 has the person 0 and the day 9 the person 4. */
    private static final Tests.Deed ON_10 = vault -> {
        vault.pass(10);
        vault.swap(11, 13);
    };

    private RotaEdgeTests() {
    }

    static void addTo(Tests tests) {
        daysToAskFor(tests);
        daysToSwap(tests);
        anotherOne(tests);
        rest(tests);
        restAtTheEnds(tests);
        sets(tests);
        nobody(tests);
        threeDaysOn(tests);
    }

    private static void daysToAskFor(Tests tests) {
        tests.test("21 \"day: 0 to 364\"", () -> {
            DrillVault vault = Tests.vault(vaultOn -> Edges.passTo(vaultOn, 360));
            for (int day = 0; day <= 364; day++) {
                Tests.due("onCall " + day, vault.onCall(day), day % 5);
            }
            Edges.refusedOutside("onCall of the day", Edges.ARGUMENT, 0, 364, DrillVault::onCall);
        });
        tests.test("21 onCall of days that are gone, with their swaps", () -> {
            DrillVault vault = Tests.vault(Edges.FULL);
            int[][] want = {{0, 0}, {2, 2}, {3, 0}, {4, 4}, {5, 3}, {359, 4}, {360, 0}, {362, 4}, {363, 3}, {364, 2}};
            for (int[] each : want) {
                Tests.due("onCall " + each[0], vault.onCall(each[0]), each[1]);
            }
        });
    }

    private static void daysToSwap(Tests tests) {
        tests.test("22 \"day: from the day of now to 364\"", () -> {
            Tests.due("now, the day 0", new DrillVault().swap(0, 10), 0);
            Tests.due("now, the day 10", Tests.vault(ON_10).swap(10, 20), 0);
            Tests.due("now, the day 360", Edges.onDay(360).swap(360, 362), 2);
            Tests.due("364", Tests.vault(ON_10).swap(364, 14), 4);
            Edges.refused("swap of day", Edges.ARGUMENT, Edges.EMPTY, (vault, day) -> vault.swap(day, 20),
                    Edges.outside(0, 364));
            Edges.refused("swap of day", Edges.ARGUMENT, ON_10, (vault, day) -> vault.swap(day, 20),
                    Edges.outside(10, 364));
            Edges.refused("swap of day", Edges.ARGUMENT, ON_10, (vault, day) -> vault.swap(day, 20), 0, 5);
            Edges.refused("swap of day", Edges.ARGUMENT, Edges.FULL, (vault, day) -> vault.swap(day, 363),
                    Edges.outside(360, 364));
        });
        tests.test("22 \"other: from the day of now to 364\"", () -> {
            Tests.due("now, the day 0", new DrillVault().swap(10, 0), 0);
            Tests.due("now, the day 10", Tests.vault(ON_10).swap(20, 10), 0);
            Tests.due("now, the day 360", Edges.onDay(360).swap(362, 360), 0);
            Tests.due("364", Tests.vault(ON_10).swap(14, 364), 4);
            Edges.refused("swap of other", Edges.ARGUMENT, Edges.EMPTY, (vault, day) -> vault.swap(20, day),
                    Edges.outside(0, 364));
            Edges.refused("swap of other", Edges.ARGUMENT, ON_10, (vault, day) -> vault.swap(20, day),
                    Edges.outside(10, 364));
            Edges.refused("swap of other", Edges.ARGUMENT, ON_10, (vault, day) -> vault.swap(20, day), 0, 5);
            Edges.refused("swap of other", Edges.ARGUMENT, Edges.FULL, (vault, day) -> vault.swap(363, day),
                    Edges.outside(360, 364));
        });
        tests.test("22 both days out of range", () -> {
            int[][] wrong = {{-1, 365}, {365, -1}, {9, 365}, {8, 3}, {Integer.MIN_VALUE, Integer.MAX_VALUE},
                {Integer.MAX_VALUE, Integer.MIN_VALUE}, {365, 370}};
            for (int[] days : wrong) {
                Tests.refused("swap " + days[0] + " " + days[1], Edges.ARGUMENT, ON_10,
                        vault -> vault.swap(days[0], days[1]));
            }
        });
    }

    private static void anotherOne(Tests tests) {
        tests.test("22 other is \"another one\": not the same day", () -> {
            Edges.refused("swap of both", Edges.ARGUMENT, Edges.EMPTY, (vault, day) -> vault.swap(day, day),
                    0, 1, 363, 364);
            Edges.refused("swap of both", Edges.ARGUMENT, ON_10, (vault, day) -> vault.swap(day, day), 10, 11, 364);
            Edges.refused("swap of both", Edges.ARGUMENT, ON_10, (vault, day) -> vault.swap(day, day),
                    Edges.outside(10, 364));
            Edges.refused("swap of both", Edges.ARGUMENT, Edges.FULL, (vault, day) -> vault.swap(day, day), 360, 364);
        });
        tests.test("22 other is \"another one\": the next day, and a day of the same person", () -> {
            DrillVault next = new DrillVault();
            Tests.due("0 and 1", next.swap(0, 1), 1);
            Tests.due("onCall 1", next.onCall(1), 0);
            Tests.due("363 and 364", next.swap(363, 364), 4);
            Tests.due("onCall 364", next.onCall(364), 3);
            Tests.due("0 and 360 of one person", new DrillVault().swap(0, 360), 0);
            Tests.due("364 and 4 of one person", new DrillVault().swap(364, 4), 4);
        });
        tests.test("22 \"who is on call on the first of these days then\": on the day that is named first", () -> {
            Tests.due("20 gets 2", new DrillVault().swap(20, 32), 2);
            Tests.due("32 gets 0", new DrillVault().swap(32, 20), 0);
        });
    }

    private static void rest(Tests tests) {
        tests.test("22 \"on two days that follow one another\": day and the one ahead of it", () -> {
            Tests.refused("20 gets 4 of 24", Edges.STATE, Edges.EMPTY, vault -> vault.swap(20, 24));
            Tests.refused("80 gets 4, 49 gets 0: only 79 is in the way", Edges.STATE, SWAPPED,
                    vault -> vault.swap(80, 49));
        });
        tests.test("22 \"on two days that follow one another\": day and the one behind it", () -> {
            Tests.refused("20 gets 1 of 31", Edges.STATE, Edges.EMPTY, vault -> vault.swap(20, 31));
            Tests.refused("72 gets 3, 53 gets 2: only 73 is in the way", Edges.STATE, SWAPPED,
                    vault -> vault.swap(72, 53));
        });
        tests.test("22 \"on two days that follow one another\": other and the one ahead of it", () -> {
            Tests.refused("20 gets 4 of 34", Edges.STATE, Edges.EMPTY, vault -> vault.swap(34, 20));
            Tests.refused("60 gets 3, 53 gets 0: only 52 is in the way", Edges.STATE, SWAPPED,
                    vault -> vault.swap(60, 53));
        });
        tests.test("22 \"on two days that follow one another\": other and the one behind it", () -> {
            Tests.refused("20 gets 1 of 41", Edges.STATE, Edges.EMPTY, vault -> vault.swap(41, 20));
            Tests.refused("53 gets 2, 72 gets 3: only 73 is in the way", Edges.STATE, SWAPPED,
                    vault -> vault.swap(53, 72));
        });
        tests.test("22 two days apart is rest enough", () -> {
            Tests.due("20 gets 2 of 22", new DrillVault().swap(20, 22), 2);
            Tests.due("20 gets 3 of 18", new DrillVault().swap(20, 18), 3);
            Tests.due("back again", Tests.vault(SWAPPED).swap(50, 52), 0);
        });
    }

    private static void restAtTheEnds(Tests tests) {
        tests.test("22 rest at the day 0", () -> {
            Tests.due("0 gets 3 of 53", new DrillVault().swap(0, 53), 3);
            Tests.refused("0 gets 1 of 6", Edges.STATE, Edges.EMPTY, vault -> vault.swap(0, 6));
            Tests.refused("1 gets 0 of 10", Edges.STATE, Edges.EMPTY, vault -> vault.swap(1, 10));
        });
        tests.test("22 rest at the day 364, behind which there is none", () -> {
            Tests.due("0 gets 4, 364 gets 0", new DrillVault().swap(0, 364), 4);
            Tests.due("364 gets 0, 0 gets 4", new DrillVault().swap(364, 0), 0);
            Tests.refused("364 gets 3 of 3, who is on 363", Edges.STATE, Edges.EMPTY, vault -> vault.swap(364, 3));
            Tests.refused("363 gets 4 of 359, who is on 364", Edges.STATE, Edges.EMPTY, vault -> vault.swap(363, 359));
        });
        tests.test("22 rest at the day of now: the day that is gone counts", () -> {
            Tests.Deed gone = vault -> vault.pass(30);
            Tests.refused("30 gets 4, who was on 29", Edges.STATE, gone, vault -> vault.swap(30, 34));
            Tests.refused("the same the other way", Edges.STATE, gone, vault -> vault.swap(44, 30));
            Tests.due("30 gets 3", Tests.vault(gone).swap(30, 33), 3);
            DrillVault last = Edges.onDay(360);
            Tests.dueThrow("360 gets 4, who was on 359", Edges.STATE, () -> last.swap(360, 364));
        });
    }

    private static void sets(Tests tests) {
        tests.test("23 \"answering: 0 to 31\"", () -> {
            DrillVault vault = new DrillVault();
            for (int answering = 0; answering <= 31; answering++) {
                Tests.due("alarm " + answering, vault.alarm(answering), firstOf(answering, 0, 1, 2, 3));
            }
            Edges.refusedOutside("alarm of the set", Edges.ARGUMENT, 0, 31, DrillVault::alarm);
        });
        tests.test("23 \"person p counts 2 to the power of p\"", () -> {
            for (int day = 0; day < 10; day++) {
                DrillVault vault = Edges.onDay(day);
                for (int person = 0; person < 5; person++) {
                    boolean near = Math.floorMod(person - day, 5) <= 3;
                    Tests.due(person + " alone on the day " + day, vault.alarm(1 << person), near ? person : -1);
                }
            }
        });
    }

    /** The first of the persons who is in the set, as the document counts it. */
    private static int firstOf(int answering, int... persons) {
        for (int person : persons) {
            int left = answering;
            for (int i = 0; i < person; i++) {
                left /= 2;
            }
            if (left % 2 == 1) {
                return person;
            }
        }
        return -1;
    }

    private static void nobody(Tests tests) {
        tests.test("23 \"NONE if nobody of those does\"", () -> {
            Tests.due("the empty set", new DrillVault().alarm(0), DrillVault.NONE);
            Tests.due("4, who is on the day 4", new DrillVault().alarm(16), DrillVault.NONE);
            Tests.due("the empty set on the last day", Tests.vault(Edges.FULL).alarm(0), -1);
        });
        tests.test("23 an alarm goes to \"the person on call\" first", () -> {
            for (int day = 0; day < 5; day++) {
                Tests.due("all would answer on " + day, Edges.onDay(day + 355).alarm(31), day);
            }
        });
    }

    private static void threeDaysOn(Tests tests) {
        tests.test("23 \"up to the one who is on call on the day 3 days on\"", () -> {
            for (int day = 0; day <= 360; day += day < 10 || day >= 350 ? 1 : 10) {
                DrillVault vault = Edges.onDay(day);
                int third = (day + 3) % 5;
                int fourth = (day + 4) % 5;
                Tests.due("3 days on from " + day, vault.alarm(1 << third), third);
                Tests.due("4 days on from " + day, vault.alarm(1 << fourth), -1);
                Tests.due("both from " + day, vault.alarm((1 << third) + (1 << fourth)), third);
            }
        });
        tests.test("23 \"up to the one who is on call on the day 3 days on\": swaps count", () -> {
            DrillVault vault = new DrillVault();
            // The days 0 to 4 have 0 1 2 4 3 then.
            vault.swap(3, 4);
            Tests.due("4 on the day 3", vault.alarm(16), 4);
            Tests.due("3 on the day 4", vault.alarm(8), -1);
            DrillVault today = new DrillVault();
            today.swap(0, 8);
            Tests.due("3 today, and again on the day 3", today.alarm(8 + 2), 3);
            Tests.due("0 not until the day 5", today.alarm(1), -1);
        });
        tests.test("23 the day 360: the day 363 is the last one an alarm goes to", () -> {
            Tests.due("3 on 363", Edges.onDay(360).alarm(8), 3);
            Tests.due("4 on 364", Edges.onDay(360).alarm(16), -1);
            DrillVault vault = Tests.vault(Edges.FULL);
            // The days 360 to 364 have 0 1 4 3 2 there.
            Tests.due("4 on 362", vault.alarm(16), 4);
            Tests.due("2 on 364", vault.alarm(4), -1);
        });
    }
}
