import java.util.Map;
import java.util.Random;
import java.util.TreeMap;

/** Long runs of all calls, the same each time, with every answer of the program compared with the model's. */
final class ModelTest {
    private static final int RUNS = 400;
    private static final int CALLS = 512;
    private static final int[] VALUES = {1, 2, 3, 5, 7, 10, 20, 25, 50, 100, 499, 500};
    private static final String[] LOOKS = {
        "mix", "balance", "trace", "reversal", "notes", "difference", "count",
    };
    private static final String[] CHANGES = {
        "open", "load", "insert", "pin", "eject", "withdraw", "line", "jam", "power", "boot", "settle",
    };

    private final Random random;
    private final Probe probe;
    private final Model model = new Model();
    private final Map<String, Integer> ends;

    private ModelTest(int run, Map<String, Integer> ends) {
        this.random = new Random(run);
        this.probe = new Probe("run " + run + " against the model");
        this.ends = ends;
    }

    public static void main(String[] args) {
        Map<String, Integer> ends = new TreeMap<>();
        for (int run = 0; run < RUNS; run++) {
            new ModelTest(run, ends).go();
        }
        Probe reach = new Probe("the runs reach every end of a withdrawal");
        for (String end : new String[] {"-1", "-2", "-3", "0", "IllegalStateException", "IllegalArgumentException",
            "UnsupportedOperationException", "IndexOutOfBoundsException"}) {
            reach.compare(end, "true", String.valueOf(ends.getOrDefault(end, 0) >= 20));
        }
        Probe.end();
    }

    private void go() {
        for (int i = 0; i < CALLS; i++) {
            step();
        }
    }

    private void step() {
        int choice = random.nextInt(100);
        if (choice < 25) {
            make(pick(LOOKS));
        } else if (choice < 35) {
            make(pick(CHANGES));
        } else {
            make(pick(fitting()));
        }
    }

    /** Calls that lead on from here: without them few runs would come to a payment. */
    private String[] fitting() {
        if (count(3) == 0) {
            return new String[] {"boot"};
        }
        if (count(4) < 0) {
            return new String[] {"load", "open", "insert", "insert"};
        }
        if (count(5) == 0) {
            return new String[] {"pin"};
        }
        return new String[] {"withdraw", "withdraw", "withdraw", "withdraw", "line", "jam", "power", "settle",
            "eject"};
    }

    /** Asked of the model, so that the machine is not used for more calls than the document grants. */
    private int count(int what) {
        return model.call("count", what, 0, 0);
    }

    private String pick(String[] names) {
        return names[random.nextInt(names.length)];
    }

    private void make(String name) {
        int a = first(name);
        int b = second(name, a);
        int c = third(name);
        String got = probe.answer(m -> call(m, name, a, b, c));
        probe.compare(name + "(" + a + ", " + b + ", " + c + ")", probe.answer(m -> model.call(name, a, b, c)), got);
        if (name.equals("withdraw")) {
            ends.merge(got, 1, Integer::sum);
        }
    }

    private int first(String name) {
        return switch (name) {
            case "open", "balance", "insert" -> around(0, 7);
            case "load", "mix", "notes" -> around(0, 3);
            case "pin" -> random.nextInt(8) == 0 ? around(0, 9999) : Math.max(0, count(4));
            case "withdraw" -> amount();
            case "line" -> around(0, 3);
            case "jam" -> random.nextInt(3) == 0 ? around(-1, 100) : around(-1, 6);
            case "power" -> around(0, 4);
            case "trace" -> around(1, 8 + count(0));
            case "reversal" -> around(0, 2 + count(1));
            case "count" -> around(0, 7);
            default -> 0;
        };
    }

    private int second(String name, int first) {
        return switch (name) {
            case "open" -> random.nextInt(8) == 0 ? around(0, 9999) : Math.min(9999, Math.max(0, first));
            case "load" -> random.nextInt(20) == 0 ? around(1, 500) : VALUES[random.nextInt(VALUES.length)];
            case "mix" -> amount();
            case "trace" -> around(0, 3);
            default -> 0;
        };
    }

    private int third(String name) {
        return switch (name) {
            case "open" -> random.nextInt(3) == 0 ? around(0, 1000000) : around(0, 6000);
            case "load" -> random.nextInt(3) > 0 ? around(0, 50) : around(0, 6);
            default -> 0;
        };
    }

    private int amount() {
        return switch (random.nextInt(4)) {
            case 0 -> around(1, 5000);
            case 1 -> 50 * around(1, 30);
            case 2 -> 10 * around(1, 20);
            default -> around(1, 60);
        };
    }

    /** Mostly within the bounds, and now and then at their edges, one beyond, or far out. */
    private int around(int least, int most) {
        int choice = random.nextInt(40);
        return switch (choice) {
            case 0 -> least - 1;
            case 1 -> most + 1;
            case 2 -> least;
            case 3 -> most;
            case 4 -> random.nextInt();
            default -> least + random.nextInt(most - least + 1);
        };
    }

    private static int call(CashMachine machine, String name, int a, int b, int c) {
        return switch (name) {
            case "open" -> machine.open(a, b, c);
            case "load" -> machine.load(a, b, c);
            case "insert" -> machine.insert(a);
            case "pin" -> machine.pin(a);
            case "eject" -> machine.eject();
            case "withdraw" -> machine.withdraw(a);
            case "mix" -> machine.mix(a, b);
            case "line" -> machine.line(a);
            case "jam" -> machine.jam(a);
            case "power" -> machine.power(a);
            case "boot" -> machine.boot();
            case "settle" -> machine.settle();
            case "balance" -> machine.balance(a);
            case "trace" -> machine.trace(a, b);
            case "reversal" -> machine.reversal(a);
            case "notes" -> machine.notes(a);
            case "difference" -> machine.difference();
            case "count" -> machine.count(a);
            default -> throw new AssertionError(name);
        };
    }
}
