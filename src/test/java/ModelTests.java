import java.util.function.Supplier;

/** Long mixed runs on DrillVault and on PlainVault side by side: every answer must be the same. */
final class ModelTests {
    private static final int CALLS = 512;
    private static final int DEEDS = 16;
    private static final int[] FAR_AWAY =
            {Integer.MIN_VALUE, Integer.MIN_VALUE + 1, Integer.MAX_VALUE - 1, Integer.MAX_VALUE};

    /** Numbers that look mixed and are the same each time. */
    private static final class Mix {
        private long state;

        Mix(long seed) {
            state = seed * 0x9E3779B97F4A7C15L + 1;
        }

        int below(int bound) {
            state = state * 6364136223846793005L + 1442695040888963407L;
            return (int) ((state >>> 33) % bound);
        }

        boolean oneIn(int bound) {
            return below(bound) == 0;
        }
    }

    private final Mix mix;
    private final DrillVault vault = new DrillVault();
    private final PlainVault plain = new PlainVault();
    private final int longestPass;
    private final int queries;
    private final int favourite;
    private final int seed;
    private final StringBuilder story = new StringBuilder();
    private int seen;

    private ModelTests(int seed) {
        this.seed = seed;
        mix = new Mix(seed);
        longestPass = 1 + mix.below(mix.oneIn(3) ? 32 : 6);
        queries = mix.below(4);
        favourite = mix.below(DEEDS);
    }

    static void addTo(Tests tests) {
        for (int group = 0; group < 20; group++) {
            int first = group * 100;
            tests.test("mixed runs " + first + " to " + (first + 99), () -> {
                for (int seed = first; seed < first + 100; seed++) {
                    new ModelTests(seed).run();
                }
            });
        }
    }

    private void run() {
        for (int i = 0; i < CALLS; i++) {
            if (mix.below(queries + 1) == 0) {
                deed();
            } else {
                query();
            }
        }
    }

    private void same(String call, Supplier<Object> got, Supplier<Object> want) {
        String due = Looks.outcome(want);
        String answer = Looks.outcome(got);
        story.append(call).append(' ').append(due).append('\n');
        if (!due.equals(answer)) {
            throw new AssertionError("run " + seed + "\n" + story + call + " answered " + answer);
        }
    }

    private int farAway() {
        return FAR_AWAY[mix.below(FAR_AWAY.length)];
    }

    private int copy() {
        if (mix.oneIn(100)) {
            return farAway();
        }
        return mix.oneIn(30) ? mix.below(64) - 2 : Math.max(0, seen - 1 - mix.below(1 + mix.below(seen + 1)));
    }

    private int file() {
        if (mix.oneIn(100)) {
            return farAway();
        }
        return mix.oneIn(40) ? mix.below(14) - 2 : mix.below(10);
    }

    private int rotaDay() {
        if (mix.oneIn(6)) {
            return mix.oneIn(6) ? farAway() : mix.below(370) - 2;
        }
        return plain.day() + mix.below(12) - (mix.oneIn(10) ? 2 : 0);
    }

    private void deed() {
        // Every other run has one kind of deed more often, so that the changes, copies or days come to their end.
        boolean often = seed % 2 == 1 && mix.oneIn(2);
        switch (often ? favourite : mix.below(DEEDS)) {
            case 0: case 1: case 2: case 3: {
                int file = file();
                int content = mix.oneIn(30) ? mix.below(106) - 3 : mix.below(100);
                same("change " + file + " " + content,
                        () -> vault.change(file, content), () -> plain.change(file, content));
                break;
            }
            case 4: case 5: {
                int days = mix.oneIn(90) ? farAway() : mix.oneIn(30) ? mix.below(40) - 4 : 1 + mix.below(longestPass);
                same("pass " + days, () -> vault.pass(days), () -> plain.pass(days));
                break;
            }
            case 6:
                same("full", vault::full, plain::full);
                seen = Math.min(60, seen + 1);
                break;
            case 7: case 8:
                same("increment", vault::increment, plain::increment);
                seen = Math.min(60, seen + 1);
                break;
            case 9: {
                int copy = copy();
                if (mix.oneIn(3)) {
                    same("damage " + copy, () -> vault.damage(copy), () -> plain.damage(copy));
                }
                break;
            }
            case 10: case 11: {
                int copy = copy();
                same("drill " + copy, () -> vault.drill(copy), () -> plain.drill(copy));
                break;
            }
            case 12: {
                int days = mix.below(mix.oneIn(8) ? 33 : 4) - (mix.oneIn(20) ? 1 : 0);
                int weeks = mix.below(mix.oneIn(8) ? 23 : 4) - (mix.oneIn(20) ? 1 : 0);
                int months = mix.below(mix.oneIn(8) ? 15 : 3) - (mix.oneIn(20) ? 1 : 0);
                same("setRules " + days + " " + weeks + " " + months,
                        () -> vault.setRules(days, weeks, months), () -> plain.setRules(days, weeks, months));
                break;
            }
            case 13:
                same("thin", vault::thin, plain::thin);
                break;
            default: {
                int one = rotaDay();
                int other = mix.oneIn(5) ? one + mix.below(3) : rotaDay();
                same("swap " + one + " " + other, () -> vault.swap(one, other), () -> plain.swap(one, other));
            }
        }
    }

    private void query() {
        int copy = copy();
        int file = file();
        switch (mix.below(13)) {
            case 0:
                same("day", vault::day, plain::day);
                break;
            case 1:
                same("copies", vault::copies, plain::copies);
                break;
            case 2:
                same("space", vault::space, plain::space);
                break;
            case 3:
                same("dayOf " + copy, () -> vault.dayOf(copy), () -> plain.dayOf(copy));
                break;
            case 4:
                same("baseOf " + copy, () -> vault.baseOf(copy), () -> plain.baseOf(copy));
                break;
            case 5:
                same("keeps " + copy, () -> vault.keeps(copy), () -> plain.keeps(copy));
                break;
            case 6:
                same("isPromised " + copy, () -> vault.isPromised(copy), () -> plain.isPromised(copy));
                break;
            case 7:
                same("isNeeded " + copy, () -> vault.isNeeded(copy), () -> plain.isNeeded(copy));
                break;
            case 8:
                same("isProved " + copy, () -> vault.isProved(copy), () -> plain.isProved(copy));
                break;
            case 9:
                same("restore " + copy + " " + file, () -> vault.restore(copy, file), () -> plain.restore(copy, file));
                break;
            case 10:
                same("restoreByChanges " + copy + " " + file,
                        () -> vault.restoreByChanges(copy, file), () -> plain.restoreByChanges(copy, file));
                break;
            case 11: {
                int day = rotaDay();
                same("onCall " + day, () -> vault.onCall(day), () -> plain.onCall(day));
                break;
            }
            default: {
                int answering = mix.below(mix.oneIn(10) ? 36 : 32) - (mix.oneIn(10) ? 2 : 0);
                same("alarm " + answering, () -> vault.alarm(answering), () -> plain.alarm(answering));
            }
        }
    }
}
