import java.util.List;

/** The states at the ends of what an object can hold, and the values at the ends of a range. */
final class Edges {
    static final Class<IndexOutOfBoundsException> OUT = IndexOutOfBoundsException.class;
    static final Class<IllegalArgumentException> ARGUMENT = IllegalArgumentException.class;
    static final Class<IllegalStateException> STATE = IllegalStateException.class;

    static final Tests.Deed EMPTY = vault -> {
    };

    /** Two chains, some of it proved, damaged and changed since. */
    static final Tests.Deed SOME = vault -> {
        vault.change(0, 10);
        vault.full();
        vault.change(1, 11);
        vault.increment();
        vault.pass(3);
        vault.change(1, 12);
        vault.change(2, 0);
        vault.increment();
        vault.drill(1);
        vault.pass(5);
        vault.full();
        vault.change(9, 99);
        vault.increment();
        vault.damage(3);
        vault.change(4, 44);
        vault.swap(20, 25);
        vault.swap(30, 32);
    };

    /** 300 changes, 60 copies in twelve chains of five, the day 360: made by 376 calls. */
    static final Tests.Deed FULL = vault -> {
        vault.swap(3, 5);
        vault.swap(362, 364);
        for (int copy = 0; copy < 60; copy++) {
            for (int file = copy; file < copy + 5; file++) {
                vault.change(file % 10, copy);
            }
            if (copy % 5 == 0) {
                vault.full();
            } else {
                vault.increment();
            }
            if (copy % 5 == 4) {
                vault.pass(30);
            }
        }
        vault.drill(54);
        vault.damage(58);
    };

    /** Of three copies the last one is there, the full copy 2 of the day 1. */
    static final Tests.Deed THINNED = vault -> {
        vault.full();
        vault.increment();
        vault.pass(1);
        vault.setRules(1, 0, 0);
        vault.drill(vault.full());
        vault.thin();
    };

    /** Of 60 copies the last one is there, the full copy 59 of the day 30. */
    static final Tests.Deed THINNED_OF_60 = vault -> {
        fullTimes(vault, 59);
        vault.pass(30);
        vault.drill(vault.full());
        vault.setRules(0, 0, 0);
        vault.thin();
    };

    static final List<Tests.Deed> STATES = List.of(EMPTY, SOME, FULL);

    /** A call that is about one number: a copy, a file, a count of days. */
    interface OfNumber {
        Object call(DrillVault vault, int number);
    }

    /** A method that wants a copy, and the promise that it stands in. */
    static final class OfCopy {
        final String name;
        final OfNumber method;

        OfCopy(String name, OfNumber method) {
            this.name = name;
            this.method = method;
        }
    }

    static final List<OfCopy> OF_COPIES = List.of(
            new OfCopy("6 damage", DrillVault::damage),
            new OfCopy("7 drill", DrillVault::drill),
            new OfCopy("13 dayOf", DrillVault::dayOf),
            new OfCopy("14 baseOf", DrillVault::baseOf),
            new OfCopy("15 keeps", DrillVault::keeps),
            new OfCopy("16 isPromised", DrillVault::isPromised),
            new OfCopy("17 isNeeded", DrillVault::isNeeded),
            new OfCopy("18 isProved", DrillVault::isProved),
            new OfCopy("19 restore", (vault, copy) -> vault.restore(copy, 9)),
            new OfCopy("20 restoreByChanges", (vault, copy) -> vault.restoreByChanges(copy, 0)));

    private Edges() {
    }

    /** The values on either side of a range, and the least and the greatest int. */
    static int[] outside(int first, int last) {
        return new int[] {first - 1, last + 1, Integer.MIN_VALUE, Integer.MAX_VALUE};
    }

    static void refused(String what, Class<? extends Exception> want, Tests.Deed state, OfNumber call, int... numbers) {
        for (int number : numbers) {
            Tests.refused(what + " of " + number, want, state, vault -> call.call(vault, number));
        }
    }

    /** Refused on the empty object, on one in between and on the full one. */
    static void refusedOutside(String what, Class<? extends Exception> want, int first, int last, OfNumber call) {
        for (Tests.Deed state : STATES) {
            refused(what, want, state, call, outside(first, last));
        }
    }

    static DrillVault onDay(int day) {
        DrillVault vault = new DrillVault();
        passTo(vault, day);
        return vault;
    }

    static void changeTimes(DrillVault vault, int times) {
        for (int i = 0; i < times; i++) {
            vault.change(i % 10, i % 100);
        }
    }

    static void fullTimes(DrillVault vault, int times) {
        for (int i = 0; i < times; i++) {
            vault.full();
        }
    }

    static void passTo(DrillVault vault, int day) {
        while (vault.day() < day) {
            vault.pass(Math.min(30, day - vault.day()));
        }
    }
}
