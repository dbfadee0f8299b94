import java.util.ArrayDeque;
import java.util.ArrayList;
import java.util.Comparator;
import java.util.Deque;
import java.util.HashMap;
import java.util.List;
import java.util.Map;
import java.util.NoSuchElementException;

/** The document read again, with the Java library and no thought of speed, to compare the program with. */
final class Model {
    private static final int SENT = 1;
    private static final int APPROVED = 2;
    private static final int DONE = 3;
    private static final int VOID = 4;

    private static final class Failure extends RuntimeException {
        private static final long serialVersionUID = 1L;
    }

    private static final class Customer {
        int pin;
        int openedWith;
        int balance;
        int wrong;
    }

    private record Reversal(int trace, int amount) {
    }

    private final Map<Integer, Customer> customers = new HashMap<>();
    private final int[] values = {1, 1, 1, 1};
    private final int[] notes = {0, 0, 0, 0};
    /** Of each trace: account, amount, state, presented. */
    private final List<int[]> journal = new ArrayList<>();
    private final List<Reversal> pending = new ArrayList<>();
    private final Deque<Integer> fates = new ArrayDeque<>();
    private final Map<Integer, Boolean> hostApproved = new HashMap<>();
    private final Map<Integer, Boolean> hostReversed = new HashMap<>();
    private boolean on = true;
    private Integer session = null;
    private boolean verified = false;
    private Integer jam = null;
    private Integer failure = null;
    private int paidTrace = 0;
    private int paidValue = 0;
    private int presented = 0;

    /** The call of this name with the arguments a, b and c, as many of them as it has. */
    int call(String name, int a, int b, int c) {
        return switch (name) {
            case "open" -> open(a, b, c);
            case "load" -> load(a, b, c);
            case "insert" -> insert(a);
            case "pin" -> pin(a);
            case "eject" -> eject();
            case "withdraw" -> withdraw(a);
            case "mix" -> mix(a, b);
            case "line" -> line(a);
            case "jam" -> jam(a);
            case "power" -> power(a);
            case "boot" -> boot();
            case "settle" -> settle();
            case "balance" -> customer(a).balance;
            case "trace" -> trace(a, b);
            case "reversal" -> reversal(a);
            case "notes" -> notes(a);
            case "difference" -> difference();
            case "count" -> count(a);
            default -> throw new AssertionError(name);
        };
    }

    private static void demand(boolean good, RuntimeException otherwise) {
        if (!good) {
            throw otherwise;
        }
    }

    private Customer customer(int account) {
        demand(customers.containsKey(account), new NoSuchElementException());
        return customers.get(account);
    }

    private int open(int account, int pin, int balance) {
        demand(account >= 0 && account <= 7, new IllegalArgumentException());
        demand(pin >= 0 && pin <= 9999, new IllegalArgumentException());
        demand(balance >= 0 && balance <= 1000000, new IllegalArgumentException());
        demand(!customers.containsKey(account), new IllegalStateException());
        Customer customer = new Customer();
        customer.pin = pin;
        customer.openedWith = balance;
        customer.balance = balance;
        customers.put(account, customer);
        return customers.size();
    }

    private int load(int cassette, int value, int count) {
        demand(cassette >= 0 && cassette <= 3, new IllegalArgumentException());
        demand(value >= 1 && value <= 500, new IllegalArgumentException());
        demand(count >= 0 && count <= 50, new IllegalArgumentException());
        demand(session == null, new IllegalStateException());
        int had = values[cassette] * notes[cassette];
        values[cassette] = value;
        notes[cassette] = count;
        return had;
    }

    private int insert(int account) {
        demand(on && session == null, new IllegalStateException());
        Customer customer = customer(account);
        demand(customer.wrong < 3, new UnsupportedOperationException());
        session = account;
        verified = false;
        return 3 - customer.wrong;
    }

    private int pin(int pin) {
        demand(session != null && !verified, new IllegalStateException());
        Customer customer = customers.get(session);
        verified = customer.pin == pin;
        customer.wrong = verified ? 0 : customer.wrong + 1;
        if (customer.wrong == 3) {
            session = null;
        }
        return 3 - customer.wrong;
    }

    private int eject() {
        demand(session != null, new IllegalStateException());
        int account = session;
        session = null;
        verified = false;
        return account;
    }

    private int withdraw(int amount) {
        demand(session != null && verified, new IllegalStateException());
        demand(amount >= 1 && amount <= 5000, new IllegalArgumentException());
        int[] mix = search(values, notes, amount);
        demand(mix != null, new UnsupportedOperationException());
        demand(journal.size() < 40, new IndexOutOfBoundsException());
        try {
            return withdrawal(amount, mix);
        } catch (Failure e) {
            failure = null;
            on = false;
            session = null;
            verified = false;
            return CashMachine.POWER;
        }
    }

    private void place(int place) {
        if (failure != null && failure == place) {
            throw new Failure();
        }
    }

    private int withdrawal(int amount, int[] mix) {
        int[] entry = {session, amount, SENT, 0};
        journal.add(entry);
        int trace = journal.size();
        place(1);
        Boolean answer = request(trace, entry);
        if (answer == null || !answer) {
            entry[2] = VOID;
            if (answer == null) {
                pending.add(new Reversal(trace, amount));
            }
            return answer == null ? CashMachine.NO_ANSWER : CashMachine.DECLINED;
        }
        place(2);
        entry[2] = APPROVED;
        place(3);
        pay(trace, mix);
        place(4);
        done(trace, entry, paidValue);
        return paidValue;
    }

    private void done(int trace, int[] entry, int value) {
        entry[2] = DONE;
        entry[3] = value;
        if (value < entry[1]) {
            pending.add(new Reversal(trace, entry[1] - value));
        }
    }

    private void pay(int trace, int[] mix) {
        List<Integer> cassetteOfNote = new ArrayList<>();
        for (int i = 0; i < 4; i++) {
            for (int j = 0; j < mix[i]; j++) {
                cassetteOfNote.add(i);
            }
        }
        cassetteOfNote.sort(Comparator.<Integer>comparingInt(i -> -values[i]).thenComparingInt(i -> i));
        int most = jam == null ? cassetteOfNote.size() : Math.min(jam, cassetteOfNote.size());
        jam = null;
        paidTrace = trace;
        paidValue = 0;
        for (int cassette : cassetteOfNote.subList(0, most)) {
            notes[cassette]--;
            paidValue += values[cassette];
        }
        presented += paidValue;
    }

    private int nextFate() {
        return fates.isEmpty() ? 0 : fates.removeFirst();
    }

    private Boolean request(int trace, int[] entry) {
        int fate = nextFate();
        int arrivals = fate == 1 ? 0 : fate == 3 ? 2 : 1;
        for (int i = 0; i < arrivals; i++) {
            if (!hostApproved.containsKey(trace)) {
                Customer customer = customers.get(entry[0]);
                boolean good = !hostReversed.containsKey(trace) && customer.wrong < 3 && customer.balance >= entry[1];
                hostApproved.put(trace, good);
                customer.balance -= good ? entry[1] : 0;
            }
        }
        return fate == 1 || fate == 2 ? null : hostApproved.get(trace);
    }

    private boolean reverse(Reversal reversal) {
        int fate = nextFate();
        int arrivals = fate == 1 ? 0 : fate == 3 ? 2 : 1;
        for (int i = 0; i < arrivals; i++) {
            if (hostReversed.put(reversal.trace, true) == null && hostApproved.getOrDefault(reversal.trace, false)) {
                customers.get(journal.get(reversal.trace - 1)[0]).balance += reversal.amount;
            }
        }
        return fate == 0 || fate == 3;
    }

    private int mix(int cassette, int amount) {
        demand(cassette >= 0 && cassette <= 3 && amount >= 1 && amount <= 5000, new IllegalArgumentException());
        int[] mix = search(values, notes, amount);
        demand(mix != null, new UnsupportedOperationException());
        return mix[cassette];
    }

    /** Every choice of notes that comes to the amount; null if there is none. */
    static int[] search(int[] values, int[] notes, int amount) {
        int[] best = null;
        int fewest = Integer.MAX_VALUE;
        for (int a = Math.min(notes[0], amount / values[0]); a >= 0; a--) {
            int restA = amount - a * values[0];
            for (int b = Math.min(notes[1], restA / values[1]); b >= 0; b--) {
                int restB = restA - b * values[1];
                for (int c = Math.min(notes[2], restB / values[2]); c >= 0; c--) {
                    int restC = restB - c * values[2];
                    int d = restC / values[3];
                    if (restC % values[3] == 0 && d <= notes[3] && a + b + c + d < fewest) {
                        fewest = a + b + c + d;
                        best = new int[] {a, b, c, d};
                    }
                }
            }
        }
        return best;
    }

    private int line(int fate) {
        demand(fate >= 0 && fate <= 3, new IllegalArgumentException());
        demand(fates.size() < 8, new IllegalStateException());
        fates.addLast(fate);
        return fates.size();
    }

    private int jam(int count) {
        demand(count >= -1 && count <= 100, new IllegalArgumentException());
        jam = count < 0 ? null : (Integer) count;
        return count < 0 ? 0 : 1;
    }

    private int power(int place) {
        demand(place >= 0 && place <= 4, new IllegalArgumentException());
        failure = place == 0 ? null : (Integer) place;
        return place == 0 ? 0 : 1;
    }

    private int boot() {
        demand(!on, new IllegalStateException());
        on = true;
        int trace = journal.size();
        int[] entry = journal.get(trace - 1);
        if (entry[2] == SENT) {
            entry[2] = VOID;
            pending.add(new Reversal(trace, entry[1]));
        } else if (entry[2] == APPROVED) {
            done(trace, entry, paidTrace == trace ? paidValue : 0);
        }
        return pending.size();
    }

    private int settle() {
        demand(on, new IllegalStateException());
        int answered = 0;
        while (!pending.isEmpty() && reverse(pending.get(0))) {
            pending.remove(0);
            answered++;
        }
        return answered;
    }

    private int trace(int trace, int what) {
        demand(trace >= 1 && trace <= journal.size(), new NoSuchElementException());
        demand(what >= 0 && what <= 3, new IllegalArgumentException());
        int[] entry = journal.get(trace - 1);
        return new int[] {entry[2], entry[0], entry[1], entry[3]}[what];
    }

    private int reversal(int index) {
        demand(index >= 0 && index < pending.size(), new NoSuchElementException());
        return pending.get(index).amount;
    }

    private int notes(int cassette) {
        demand(cassette >= 0 && cassette <= 3, new IllegalArgumentException());
        return notes[cassette];
    }

    private int difference() {
        return customers.values().stream().mapToInt(c -> c.openedWith - c.balance).sum() - presented;
    }

    private int count(int what) {
        demand(what >= 0 && what <= 7, new IllegalArgumentException());
        int blocked = (int) customers.values().stream().filter(c -> c.wrong == 3).count();
        return new int[] {journal.size(), pending.size(), fates.size(), on ? 1 : 0,
            session == null ? -1 : session, verified ? 1 : 0, presented, blocked}[what];
    }
}
