import java.util.ArrayList;
import java.util.List;
import java.util.function.Supplier;

/**
 * Looks at all that a vault answers, cut into parts: one object answers 512 calls at most,
 * and a look takes at most 131 of them, or as many as an object that has not had them may still take.
 */
final class Looks {
    interface Look {
        String at(DrillVault vault);
    }

    static final List<Look> ALL = all();

    private static final int COPIES_A_LOOK = 5;
    private static final int ROTA_DAYS_A_LOOK = 125;

    private Looks() {
    }

    static String outcome(Supplier<Object> call) {
        try {
            return String.valueOf(call.get());
        } catch (RuntimeException thrown) {
            return "throws " + thrown.getClass().getName();
        }
    }

    private static List<Look> all() {
        List<Look> looks = new ArrayList<>();
        looks.add(vault -> vault.day() + " " + vault.copies() + " " + vault.space());
        for (int first = 0; first < 60; first += COPIES_A_LOOK) {
            int from = first;
            looks.add(vault -> copies(vault, from, from + COPIES_A_LOOK));
        }
        for (int first = 0; first < 365; first += ROTA_DAYS_A_LOOK) {
            int from = first;
            looks.add(vault -> rota(vault, from, Math.min(365, from + ROTA_DAYS_A_LOOK)));
        }
        looks.add(Looks::increments);
        looks.add(Looks::fulls);
        looks.add(Looks::damages);
        looks.add(vault -> "thinned " + vault.thin() + copies(vault, 0, COPIES_A_LOOK));
        looks.add(Looks::rulesKept);
        looks.add(vault -> "changes " + timesUntilRefused(() -> vault.change(0, 0), 300));
        looks.add(vault -> "full copies " + timesUntilRefused(vault::full, 60));
        return looks;
    }

    private static int timesUntilRefused(Supplier<Object> call, int most) {
        int times = 0;
        while (times <= most && !outcome(call).startsWith("throws")) {
            times++;
        }
        return times;
    }

    private static String copies(DrillVault vault, int from, int to) {
        StringBuilder seen = new StringBuilder();
        for (int copy = from; copy < to; copy++) {
            int number = copy;
            seen.append('\n').append(number).append(": ");
            seen.append(outcome(() -> vault.dayOf(number))).append(' ');
            seen.append(outcome(() -> vault.baseOf(number))).append(' ');
            seen.append(outcome(() -> vault.keeps(number))).append(' ');
            seen.append(outcome(() -> vault.isPromised(number))).append(' ');
            seen.append(outcome(() -> vault.isNeeded(number))).append(' ');
            seen.append(outcome(() -> vault.isProved(number)));
            for (int file = 0; file < 10; file++) {
                int asked = file;
                seen.append(' ').append(outcome(() -> vault.restore(number, asked)));
                seen.append(' ').append(outcome(() -> vault.restoreByChanges(number, asked)));
            }
        }
        return seen.toString();
    }

    private static String rota(DrillVault vault, int from, int to) {
        StringBuilder seen = new StringBuilder();
        for (int day = from; day < to; day++) {
            seen.append(vault.onCall(day));
        }
        return seen.toString();
    }

    /** The changes since the latest copy, and how many changes may still come. */
    private static String increments(DrillVault vault) {
        StringBuilder seen = new StringBuilder();
        String made = outcome(vault::increment);
        seen.append(made);
        if (!made.startsWith("throws")) {
            int copy = Integer.parseInt(made);
            seen.append(' ').append(vault.keeps(copy)).append(' ').append(vault.baseOf(copy));
        }
        for (int file = 0; file < 10; file++) {
            int changed = file;
            seen.append(' ').append(outcome(() -> vault.change(changed, 7)));
        }
        return seen.toString();
    }

    private static String fulls(DrillVault vault) {
        String made = outcome(vault::full);
        if (made.startsWith("throws")) {
            return made;
        }
        int copy = Integer.parseInt(made);
        return made + copies(vault, copy, copy + 1);
    }

    /** Which copies are damaged, by drills of all of them. */
    private static String damages(DrillVault vault) {
        StringBuilder seen = new StringBuilder();
        for (int copy = 0; copy < 60; copy++) {
            int number = copy;
            seen.append(' ').append(outcome(() -> vault.drill(number)));
        }
        return seen.toString();
    }

    /** The rules, by the copies that are promised of one more day each. */
    private static String rulesKept(DrillVault vault) {
        StringBuilder seen = new StringBuilder();
        for (int i = 0; i < 12; i++) {
            seen.append(' ').append(outcome(() -> vault.pass(1)));
            seen.append(' ').append(outcome(vault::full));
        }
        for (int copy = 0; copy < 60; copy++) {
            int number = copy;
            seen.append(' ').append(outcome(() -> vault.isPromised(number)));
        }
        return seen.toString();
    }
}
