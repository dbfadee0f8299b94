import java.util.NoSuchElementException;

/** One machine under test: makes calls on it, and tells each answer that is not the one that is due. */
final class Probe {
    interface Call {
        int on(CashMachine machine);
    }

    private static int made = 0;
    private static int wrong = 0;

    private final String what;
    final CashMachine machine = new CashMachine();

    Probe(String what) {
        this.what = what;
    }

    Probe due(int want, String name, Call call) {
        return compare(name, String.valueOf(want), answer(call));
    }

    /** The call throws just this, and changes nothing that can be seen. */
    Probe refused(Class<? extends RuntimeException> want, String name, Call call) {
        String before = seen();
        compare(name, want.getSimpleName(), answer(call));
        return compare(name.concat(" changes"), before, seen());
    }

    Probe badArgument(String name, Call call) {
        return refused(IllegalArgumentException.class, name, call);
    }

    Probe badState(String name, Call call) {
        return refused(IllegalStateException.class, name, call);
    }

    Probe noElement(String name, Call call) {
        return refused(NoSuchElementException.class, name, call);
    }

    Probe unsupported(String name, Call call) {
        return refused(UnsupportedOperationException.class, name, call);
    }

    Probe outOfBounds(String name, Call call) {
        return refused(IndexOutOfBoundsException.class, name, call);
    }

    /** An open account with its number as PIN, in a verified session. */
    Probe session(int account, int balance) {
        machine.open(account, account, balance);
        return sessionAgain(account);
    }

    Probe sessionAgain(int account) {
        machine.insert(account);
        machine.pin(account);
        return this;
    }

    Probe loaded(int cassette, int value, int notes) {
        machine.load(cassette, value, notes);
        return this;
    }

    Probe mixIs(int amount, int... want) {
        for (int i = 0; i < want.length; i++) {
            int cassette = i;
            due(want[i], "mix(" + i + ", " + amount + ")", m -> m.mix(cassette, amount));
        }
        return this;
    }

    Probe notesAre(int... want) {
        for (int i = 0; i < want.length; i++) {
            int cassette = i;
            due(want[i], "notes(" + i + ")", m -> m.notes(cassette));
        }
        return this;
    }

    Probe traceIs(int trace, int... want) {
        for (int i = 0; i < want.length; i++) {
            int what = i;
            due(want[i], "trace(" + trace + ", " + i + ")", m -> m.trace(trace, what));
        }
        return this;
    }

    Probe pendingAre(int... want) {
        due(want.length, "count(1)", m -> m.count(1));
        for (int i = 0; i < want.length; i++) {
            int index = i;
            due(want[i], "reversal(" + i + ")", m -> m.reversal(index));
        }
        return this;
    }

    String answer(Call call) {
        try {
            return String.valueOf(call.on(machine));
        } catch (RuntimeException e) {
            return e.getClass().getSimpleName();
        }
    }

    String seen() {
        StringBuilder text = new StringBuilder();
        for (int i = 0; i < 8; i++) {
            int index = i;
            text.append(answer(m -> m.count(index))).append(' ').append(answer(m -> m.balance(index))).append(' ');
        }
        for (int i = 0; i < 4; i++) {
            text.append(machine.notes(i)).append(' ');
        }
        for (int i = 1; i <= machine.count(0); i++) {
            for (int j = 0; j < 4; j++) {
                text.append(machine.trace(i, j)).append(' ');
            }
        }
        for (int i = 0; i < machine.count(1); i++) {
            text.append(machine.reversal(i)).append(' ');
        }
        return text.append(machine.difference()).toString();
    }

    Probe compare(String name, String want, String got) {
        made++;
        if (!got.equals(want)) {
            wrong++;
            System.out.println(what + ": " + name + " answered " + got + ", due is " + want);
        }
        return this;
    }

    /** Ends the test: with exit code 1 if an answer was wrong. */
    static void end() {
        System.out.println(made + " answers, " + wrong + " of them wrong");
        if (wrong != 0 || made == 0) {
            System.exit(1);
        }
    }
}
