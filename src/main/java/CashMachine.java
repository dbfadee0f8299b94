import java.util.Arrays;
import java.util.NoSuchElementException;

/** A cash machine and its host, as ../shared/DOC.md tells them. */
public final class CashMachine {
    public static final int DECLINED = -1;
    public static final int NO_ANSWER = -2;
    public static final int POWER = -3;

    private static final int ACCOUNTS = 8;
    private static final int MOST_PIN = 9999;
    private static final int MOST_BALANCE = 1000000;
    private static final int TRIES = 3;

    private static final int CASSETTES = 4;
    private static final int MOST_VALUE = 500;
    private static final int MOST_NOTES = 50;
    private static final int MOST_AMOUNT = 5000;

    private static final int MOST_TRACES = 40;
    private static final int SENT = 1;
    private static final int APPROVED = 2;
    private static final int DONE = 3;
    private static final int VOID = 4;

    private static final int MOST_FATES = 8;
    private static final int ALL_WELL = 0;
    private static final int SENDING_LOST = 1;
    private static final int ANSWER_LOST = 2;
    private static final int DOUBLED = 3;

    private static final int MOST_JAM = 100;
    private static final int NO_JAM = -1;

    private static final int NO_FAILURE = 0;
    private static final int BEFORE_EXCHANGE = 1;
    private static final int BEFORE_APPROVAL = 2;
    private static final int BEFORE_PAYMENT = 3;
    private static final int BEFORE_DONE = 4;

    private static final int NO_SESSION = -1;

    private final Host host = new Host();
    private final Line line = new Line();
    private final Dispenser dispenser = new Dispenser();
    private final Journal journal = new Journal();
    private final Reversals pending = new Reversals();
    private boolean on = true;
    private int session = NO_SESSION;
    private boolean verified = false;
    private int failurePlace = NO_FAILURE;

    public CashMachine() {
    }

    public int open(int account, int pin, int balance) throws IllegalArgumentException, IllegalStateException {
        if (!isWithin(account, 0, ACCOUNTS - 1) || !isWithin(pin, 0, MOST_PIN)
                || !isWithin(balance, 0, MOST_BALANCE)) {
            throw new IllegalArgumentException();
        }
        if (host.isOpen(account)) {
            throw new IllegalStateException();
        }
        host.openAccount(account, pin, balance);
        return host.openAccounts();
    }

    public int load(int cassette, int value, int notes) throws IllegalArgumentException, IllegalStateException {
        if (!isWithin(cassette, 0, CASSETTES - 1) || !isWithin(value, 1, MOST_VALUE)
                || !isWithin(notes, 0, MOST_NOTES)) {
            throw new IllegalArgumentException();
        }
        if (session != NO_SESSION) {
            throw new IllegalStateException();
        }
        return dispenser.exchangeNotes(cassette, value, notes);
    }

    public int insert(int account)
            throws IllegalStateException, NoSuchElementException, UnsupportedOperationException {
        if (!on || session != NO_SESSION) {
            throw new IllegalStateException();
        }
        if (!host.isOpen(account)) {
            throw new NoSuchElementException();
        }
        if (host.accounts[account].blocked) {
            throw new UnsupportedOperationException();
        }
        session = account;
        verified = false;
        return host.accounts[account].triesLeft;
    }

    public int pin(int pin) throws IllegalStateException {
        if (session == NO_SESSION || verified) {
            throw new IllegalStateException();
        }
        Account account = host.accounts[session];
        verified = account.tryPin(pin);
        if (account.blocked) {
            endSession();
        }
        return account.triesLeft;
    }

    public int eject() throws IllegalStateException {
        if (session == NO_SESSION) {
            throw new IllegalStateException();
        }
        int account = session;
        endSession();
        return account;
    }

    public int withdraw(int amount) throws IllegalStateException, IllegalArgumentException,
            UnsupportedOperationException, IndexOutOfBoundsException {
        if (session == NO_SESSION || !verified) {
            throw new IllegalStateException();
        }
        if (!isWithin(amount, 1, MOST_AMOUNT)) {
            throw new IllegalArgumentException();
        }
        if (!dispenser.findMix(amount)) {
            throw new UnsupportedOperationException();
        }
        if (journal.size >= MOST_TRACES) {
            throw new IndexOutOfBoundsException();
        }
        return request(journal.begin(session, amount));
    }

    public int mix(int cassette, int amount) throws IllegalArgumentException, UnsupportedOperationException {
        if (!isWithin(cassette, 0, CASSETTES - 1) || !isWithin(amount, 1, MOST_AMOUNT)) {
            throw new IllegalArgumentException();
        }
        if (!dispenser.findMix(amount)) {
            throw new UnsupportedOperationException();
        }
        return dispenser.mix.taken[cassette];
    }

    public int line(int fate) throws IllegalArgumentException, IllegalStateException {
        if (!isWithin(fate, ALL_WELL, DOUBLED)) {
            throw new IllegalArgumentException();
        }
        if (line.size >= MOST_FATES) {
            throw new IllegalStateException();
        }
        line.add(fate);
        return line.size;
    }

    public int jam(int notes) throws IllegalArgumentException {
        if (!isWithin(notes, NO_JAM, MOST_JAM)) {
            throw new IllegalArgumentException();
        }
        dispenser.jam = notes;
        return notes == NO_JAM ? 0 : 1;
    }

    public int power(int place) throws IllegalArgumentException {
        if (!isWithin(place, NO_FAILURE, BEFORE_DONE)) {
            throw new IllegalArgumentException();
        }
        failurePlace = place;
        return place == NO_FAILURE ? 0 : 1;
    }

    public int boot() throws IllegalStateException {
        if (on) {
            throw new IllegalStateException();
        }
        on = true;
        if (journal.size > 0) {
            recover(journal.last());
        }
        return pending.size;
    }

    public int settle() throws IllegalStateException {
        if (!on) {
            throw new IllegalStateException();
        }
        int answered = 0;
        while (answered < pending.size && exchangeReversal(answered)) {
            answered++;
        }
        pending.dropFirst(answered);
        return answered;
    }

    public int balance(int account) throws NoSuchElementException {
        if (!host.isOpen(account)) {
            throw new NoSuchElementException();
        }
        return host.accounts[account].balance;
    }

    public int trace(int trace, int what) throws NoSuchElementException, IllegalArgumentException {
        if (!isWithin(trace, 1, journal.size)) {
            throw new NoSuchElementException();
        }
        Entry entry = journal.entries[trace - 1];
        switch (what) {
            case 0:
                return entry.state;
            case 1:
                return entry.account;
            case 2:
                return entry.amount;
            case 3:
                return entry.presented;
            default:
                throw new IllegalArgumentException();
        }
    }

    public int reversal(int index) throws NoSuchElementException {
        if (!isWithin(index, 0, pending.size - 1)) {
            throw new NoSuchElementException();
        }
        return pending.amounts[index];
    }

    public int notes(int cassette) throws IllegalArgumentException {
        if (!isWithin(cassette, 0, CASSETTES - 1)) {
            throw new IllegalArgumentException();
        }
        return dispenser.cassettes[cassette].notes;
    }

    public int difference() {
        return host.takenFromBalances() - dispenser.presentedInAll;
    }

    public int count(int what) throws IllegalArgumentException {
        switch (what) {
            case 0:
                return journal.size;
            case 1:
                return pending.size;
            case 2:
                return line.size;
            case 3:
                return on ? 1 : 0;
            case 4:
                return session;
            case 5:
                return verified ? 1 : 0;
            case 6:
                return dispenser.presentedInAll;
            case 7:
                return host.blockedAccounts();
            default:
                throw new IllegalArgumentException();
        }
    }

    private static boolean isWithin(int number, int least, int most) {
        return number >= least && number <= most;
    }

    private void endSession() {
        session = NO_SESSION;
        verified = false;
    }

    /** Steps (b) to (e) of a withdrawal whose record is SENT. */
    private int request(Entry entry) {
        if (failsAt(BEFORE_EXCHANGE)) {
            return POWER;
        }
        int answer = exchangeRequest(entry);
        if (answer == NO_ANSWER) {
            giveUp(entry);
            return NO_ANSWER;
        }
        if (answer == DECLINED) {
            entry.state = VOID;
            return DECLINED;
        }
        if (failsAt(BEFORE_APPROVAL)) {
            return POWER;
        }
        entry.state = APPROVED;
        return present(entry);
    }

    /** Steps (d) and (e) of a withdrawal whose record is APPROVED. */
    private int present(Entry entry) {
        if (failsAt(BEFORE_PAYMENT)) {
            return POWER;
        }
        int presented = dispenser.payMix(entry.trace);
        if (failsAt(BEFORE_DONE)) {
            return POWER;
        }
        finish(entry, presented);
        return presented;
    }

    /** A failure that happens is used up; one set for a place that is not reached waits. */
    private boolean failsAt(int place) {
        if (failurePlace != place) {
            return false;
        }
        failurePlace = NO_FAILURE;
        on = false;
        endSession();
        return true;
    }

    /** The host may have approved what nobody heard of: a reversal makes it whole either way. */
    private void giveUp(Entry entry) {
        entry.state = VOID;
        pending.add(entry.trace, entry.amount);
    }

    private void finish(Entry entry, int presented) {
        entry.state = DONE;
        entry.presented = presented;
        if (presented < entry.amount) {
            pending.add(entry.trace, entry.amount - presented);
        }
    }

    private void recover(Entry entry) {
        if (entry.state == SENT) {
            giveUp(entry);
        } else if (entry.state == APPROVED) {
            finish(entry, dispenser.presentedFor(entry.trace));
        }
    }

    /** Answers APPROVED, DECLINED or NO_ANSWER. */
    private int exchangeRequest(Entry entry) {
        int fate = line.takeFirst();
        if (fate == SENDING_LOST) {
            return NO_ANSWER;
        }
        boolean approved = host.receiveRequest(entry.trace, entry.account, entry.amount);
        if (fate == DOUBLED) {
            host.receiveRequest(entry.trace, entry.account, entry.amount);
        }
        if (fate == ANSWER_LOST) {
            return NO_ANSWER;
        }
        return approved ? APPROVED : DECLINED;
    }

    /** Answers whether the host's answer came. */
    private boolean exchangeReversal(int index) {
        int fate = line.takeFirst();
        if (fate == SENDING_LOST) {
            return false;
        }
        host.receiveReversal(pending.traces[index], pending.amounts[index]);
        if (fate == DOUBLED) {
            host.receiveReversal(pending.traces[index], pending.amounts[index]);
        }
        return fate != ANSWER_LOST;
    }

    private static final class Account {
        boolean opened = false;
        int pin = 0;
        int openedWith = 0;
        int balance = 0;
        int triesLeft = TRIES;
        boolean blocked = false;

        boolean tryPin(int tried) {
            if (tried == pin) {
                triesLeft = TRIES;
                return true;
            }
            triesLeft--;
            blocked = triesLeft <= 0;
            return false;
        }
    }

    private static final class Host {
        private static final int NEVER_SEEN = 0;

        final Account[] accounts = new Account[ACCOUNTS];
        /** By trace: NEVER_SEEN, APPROVED or DECLINED. */
        private final int[] answers = new int[MOST_TRACES + 1];
        private final int[] accountOfTrace = new int[MOST_TRACES + 1];
        private final boolean[] reversed = new boolean[MOST_TRACES + 1];

        Host() {
            for (int i = 0; i < ACCOUNTS; i++) {
                accounts[i] = new Account();
            }
        }

        boolean isOpen(int account) {
            return isWithin(account, 0, ACCOUNTS - 1) && accounts[account].opened;
        }

        void openAccount(int number, int pin, int balance) {
            Account account = accounts[number];
            account.opened = true;
            account.pin = pin;
            account.openedWith = balance;
            account.balance = balance;
        }

        boolean receiveRequest(int trace, int account, int amount) {
            if (answers[trace] == NEVER_SEEN) {
                answers[trace] = decide(trace, accounts[account], amount);
                accountOfTrace[trace] = account;
            }
            return answers[trace] == APPROVED;
        }

        private int decide(int trace, Account account, int amount) {
            if (reversed[trace] || account.blocked || account.balance < amount) {
                return DECLINED;
            }
            account.balance -= amount;
            return APPROVED;
        }

        void receiveReversal(int trace, int amount) {
            if (!reversed[trace] && answers[trace] == APPROVED) {
                accounts[accountOfTrace[trace]].balance += amount;
            }
            reversed[trace] = true;
        }

        int openAccounts() {
            int open = 0;
            for (Account account : accounts) {
                open += account.opened ? 1 : 0;
            }
            return open;
        }

        int blockedAccounts() {
            int blocked = 0;
            for (Account account : accounts) {
                blocked += account.blocked ? 1 : 0;
            }
            return blocked;
        }

        int takenFromBalances() {
            int taken = 0;
            for (Account account : accounts) {
                taken += account.openedWith - account.balance;
            }
            return taken;
        }
    }

    private static final class Line {
        private final int[] fates = new int[MOST_FATES];
        int size = 0;

        void add(int fate) {
            fates[size] = fate;
            size++;
        }

        int takeFirst() {
            if (size == 0) {
                return ALL_WELL;
            }
            int first = fates[0];
            size--;
            System.arraycopy(fates, 1, fates, 0, size);
            return first;
        }
    }

    /** A journal's record of one trace. */
    private static final class Entry {
        final int trace;
        int account = 0;
        int amount = 0;
        int state = 0;
        int presented = 0;

        Entry(int trace) {
            this.trace = trace;
        }
    }

    private static final class Journal {
        final Entry[] entries = new Entry[MOST_TRACES];
        int size = 0;

        Journal() {
            for (int i = 0; i < MOST_TRACES; i++) {
                entries[i] = new Entry(i + 1);
            }
        }

        Entry begin(int account, int amount) {
            Entry entry = entries[size];
            size++;
            entry.account = account;
            entry.amount = amount;
            entry.state = SENT;
            return entry;
        }

        Entry last() {
            return entries[size - 1];
        }
    }

    /** The pending reversals: a trace brings one at most, so none is ever refused. */
    private static final class Reversals {
        final int[] traces = new int[MOST_TRACES];
        final int[] amounts = new int[MOST_TRACES];
        int size = 0;

        void add(int trace, int amount) {
            if (size < MOST_TRACES) {
                traces[size] = trace;
                amounts[size] = amount;
                size++;
            }
        }

        void dropFirst(int dropped) {
            size -= dropped;
            System.arraycopy(traces, dropped, traces, 0, size);
            System.arraycopy(amounts, dropped, amounts, 0, size);
        }
    }

    private static final class Cassette {
        int value = 1;
        int notes = 0;
    }

    private static final class Dispenser {
        private static final int NO_CASSETTE = -1;

        final Cassette[] cassettes = new Cassette[CASSETTES];
        final Mix mix = new Mix();
        int jam = NO_JAM;
        int presentedInAll = 0;
        private int lastTrace = 0;
        private int lastPresented = 0;

        Dispenser() {
            for (int i = 0; i < CASSETTES; i++) {
                cassettes[i] = new Cassette();
            }
        }

        int exchangeNotes(int number, int value, int notes) {
            Cassette cassette = cassettes[number];
            int had = cassette.value * cassette.notes;
            cassette.value = value;
            cassette.notes = notes;
            return had;
        }

        boolean findMix(int amount) {
            return mix.find(cassettes, amount);
        }

        /** Pays the mix that was found last, as far as a jam lets it. */
        int payMix(int trace) {
            int most = jam == NO_JAM ? CASSETTES * MOST_NOTES : jam;
            jam = NO_JAM;
            int presented = 0;
            int next = nextCassette();
            for (int paid = 0; paid < most && next != NO_CASSETTE; paid++) {
                mix.taken[next]--;
                cassettes[next].notes--;
                presented += cassettes[next].value;
                next = nextCassette();
            }
            lastTrace = trace;
            lastPresented = presented;
            presentedInAll += presented;
            return presented;
        }

        private int nextCassette() {
            int next = NO_CASSETTE;
            for (int i = 0; i < CASSETTES; i++) {
                boolean due = mix.taken[i] > 0;
                if (due && (next == NO_CASSETTE || cassettes[i].value > cassettes[next].value)) {
                    next = i;
                }
            }
            return next;
        }

        int presentedFor(int trace) {
            return trace == lastTrace ? lastPresented : 0;
        }
    }

    /**
     * Finds the mix by meeting in the middle: the best pair of the last two cassettes for every sum first,
     * then every pair of the first two beside it, which is some thousands of steps and not a hundred thousand.
     */
    private static final class Mix {
        private static final int NO_RANK = 1000000;
        private static final int NO_MIX = 1000000;
        private static final int RANKS = MOST_NOTES + 1;

        final int[] taken = new int[CASSETTES];
        /** By sum: lower for fewer notes, and for as many lower with more of cassette 2. */
        private final int[] rankOfLastTwo = new int[MOST_AMOUNT + 1];

        boolean find(Cassette[] cassettes, int amount) {
            rankLastTwo(cassettes[2], cassettes[3], amount);
            Cassette first = cassettes[0];
            Cassette second = cassettes[1];
            int fewest = NO_MIX;
            for (int i = 0; i <= first.notes && i * first.value <= amount; i++) {
                int rest = amount - i * first.value;
                for (int j = 0; j <= second.notes && j * second.value <= rest; j++) {
                    int rank = rankOfLastTwo[rest - j * second.value];
                    // Of as many notes the later pair is taken: it has more of cassette 0, or else of 1.
                    if (rank != NO_RANK && i + j + rank / RANKS <= fewest) {
                        fewest = i + j + rank / RANKS;
                        keep(i, j, rank);
                    }
                }
            }
            return fewest != NO_MIX;
        }

        private void rankLastTwo(Cassette third, Cassette fourth, int amount) {
            Arrays.fill(rankOfLastTwo, NO_RANK);
            for (int i = 0; i <= third.notes && i * third.value <= amount; i++) {
                int rest = amount - i * third.value;
                for (int j = 0; j <= fourth.notes && j * fourth.value <= rest; j++) {
                    int sum = i * third.value + j * fourth.value;
                    int rank = (i + j) * RANKS + MOST_NOTES - i;
                    rankOfLastTwo[sum] = Math.min(rankOfLastTwo[sum], rank);
                }
            }
        }

        private void keep(int ofFirst, int ofSecond, int rank) {
            int ofThird = MOST_NOTES - rank % RANKS;
            taken[0] = ofFirst;
            taken[1] = ofSecond;
            taken[2] = ofThird;
            taken[3] = rank / RANKS - ofThird;
        }
    }
}
