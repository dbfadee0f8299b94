/** Promises 1 (a new object), 2 (open), 4 (insert), 5 (pin), 6 (eject) and 14 (balance). */
final class AccountsTest {
    private static final int LEAST = Integer.MIN_VALUE;
    private static final int MOST = Integer.MAX_VALUE;

    public static void main(String[] args) {
        newObject();
        openAnswersHowManyAreOpen();
        openAtTheEdges();
        openRefusesWrongNumbers();
        openTestsNumbersBeforeState();
        openInAnyStateOfTheMachine();
        insertBeginsASessionNotVerified();
        insertRefusals();
        insertRefusesWhenDown();
        pinCountsTries();
        pinThatIsWrongThriceBlocks();
        pinTakesAnyNumberAsWrong();
        pinRefusals();
        ejectEndsTheSession();
        balanceOfAccounts();
        Probe.end();
    }

    private static void newObject() {
        Probe probe = new Probe("1: a new object");
        int[] counts = {0, 0, 0, 1, -1, 0, 0, 0};
        for (int i = 0; i < counts.length; i++) {
            int what = i;
            probe.due(counts[i], "count(" + i + ")", m -> m.count(what));
        }
        probe.due(0, "difference()", CashMachine::difference).notesAre(0, 0, 0, 0);
        for (int i = 0; i < 8; i++) {
            int account = i;
            probe.noElement("balance(" + i + ")", m -> m.balance(account));
        }
        probe.noElement("trace(1, 0)", m -> m.trace(1, 0)).noElement("reversal(0)", m -> m.reversal(0));
        probe.badState("boot()", CashMachine::boot).badState("eject()", CashMachine::eject);
        probe.badState("pin(0)", m -> m.pin(0)).badState("withdraw(1)", m -> m.withdraw(1));
        probe.unsupported("mix(0, 1)", m -> m.mix(0, 1)).due(0, "settle()", CashMachine::settle);
    }

    private static void openAnswersHowManyAreOpen() {
        Probe probe = new Probe("2: open");
        int[] order = {5, 0, 7, 2, 1, 6, 3, 4};
        for (int i = 0; i < order.length; i++) {
            int account = order[i];
            probe.due(i + 1, "open(" + account + ", 1, 10)", m -> m.open(account, 1, 10));
            probe.badState("open again", m -> m.open(account, 2, 20));
        }
        probe.due(10, "balance(5)", m -> m.balance(5));
    }

    private static void openAtTheEdges() {
        Probe probe = new Probe("2: open at the edges");
        probe.due(1, "open(0, 0, 0)", m -> m.open(0, 0, 0));
        probe.due(2, "open(7, 9999, 1000000)", m -> m.open(7, 9999, 1000000));
        probe.due(0, "balance(0)", m -> m.balance(0)).due(1000000, "balance(7)", m -> m.balance(7));
        probe.due(3, "insert(7)", m -> m.insert(7)).due(3, "pin(9999)", m -> m.pin(9999));
        probe.due(7, "eject()", CashMachine::eject);
        probe.due(3, "insert(0)", m -> m.insert(0)).due(3, "pin(0)", m -> m.pin(0));
    }

    private static void openRefusesWrongNumbers() {
        Probe probe = new Probe("2: open with wrong numbers");
        for (int wrong : new int[] {LEAST, -1, 8, MOST}) {
            probe.badArgument("open(" + wrong + ", 0, 0)", m -> m.open(wrong, 0, 0));
        }
        for (int wrong : new int[] {LEAST, -1, 10000, MOST}) {
            probe.badArgument("open(0, " + wrong + ", 0)", m -> m.open(0, wrong, 0));
        }
        for (int wrong : new int[] {LEAST, -1, 1000001, MOST}) {
            probe.badArgument("open(0, 0, " + wrong + ")", m -> m.open(0, 0, wrong));
        }
        probe.due(1, "open(0, 0, 0)", m -> m.open(0, 0, 0));
    }

    private static void openTestsNumbersBeforeState() {
        Probe probe = new Probe("2: open tests numbers first");
        probe.due(1, "open(3, 3, 3)", m -> m.open(3, 3, 3));
        probe.badArgument("open(3, -1, 3)", m -> m.open(3, -1, 3));
        probe.badArgument("open(3, 3, -1)", m -> m.open(3, 3, -1));
        probe.badState("open(3, 4, 4)", m -> m.open(3, 4, 4));
        probe.due(3, "insert(3)", m -> m.insert(3)).due(3, "pin(3)", m -> m.pin(3));
    }

    private static void openInAnyStateOfTheMachine() {
        Probe probe = new Probe("2: open in a session and when DOWN").loaded(0, 1, 5).session(0, 9);
        probe.due(2, "open(1, 1, 1)", m -> m.open(1, 1, 1));
        probe.due(1, "power(1)", m -> m.power(1)).due(CashMachine.POWER, "withdraw(1)", m -> m.withdraw(1));
        probe.due(3, "open(2, 1, 1)", m -> m.open(2, 1, 1));
    }

    private static void insertBeginsASessionNotVerified() {
        Probe probe = new Probe("4: insert");
        probe.due(1, "open(4, 44, 100)", m -> m.open(4, 44, 100));
        probe.due(3, "insert(4)", m -> m.insert(4));
        probe.due(4, "count(4)", m -> m.count(4)).due(0, "count(5)", m -> m.count(5));
        probe.due(3, "pin(44)", m -> m.pin(44)).due(1, "count(5)", m -> m.count(5));
        probe.due(4, "eject()", CashMachine::eject).due(3, "insert(4)", m -> m.insert(4));
        probe.due(0, "count(5)", m -> m.count(5)).badState("withdraw(1)", m -> m.withdraw(1));
    }

    private static void insertRefusals() {
        Probe probe = new Probe("4: insert refuses");
        probe.due(1, "open(0, 1, 1)", m -> m.open(0, 1, 1)).due(2, "open(1, 1, 1)", m -> m.open(1, 1, 1));
        for (int wrong : new int[] {LEAST, -1, 2, 7, 8, MOST}) {
            probe.noElement("insert(" + wrong + ")", m -> m.insert(wrong));
        }
        probe.due(3, "insert(0)", m -> m.insert(0));
        probe.badState("insert(0) in a session", m -> m.insert(0));
        probe.badState("insert(1) in a session", m -> m.insert(1));
        probe.badState("insert(9) in a session", m -> m.insert(9));
        block(probe, 2);
        probe.unsupported("insert(0) blocked", m -> m.insert(0)).due(3, "insert(1)", m -> m.insert(1));
        probe.badState("insert(0) blocked, in a session", m -> m.insert(0));
    }

    private static void insertRefusesWhenDown() {
        Probe probe = new Probe("4: insert when DOWN").loaded(0, 1, 5).session(0, 9);
        probe.due(1, "power(1)", m -> m.power(1)).due(CashMachine.POWER, "withdraw(1)", m -> m.withdraw(1));
        probe.badState("insert(0)", m -> m.insert(0)).badState("insert(5)", m -> m.insert(5));
        probe.due(1, "boot()", CashMachine::boot).due(3, "insert(0)", m -> m.insert(0));
    }

    private static void pinCountsTries() {
        Probe probe = new Probe("5: pin counts tries");
        probe.due(1, "open(0, 10, 1)", m -> m.open(0, 10, 1)).due(2, "open(1, 11, 1)", m -> m.open(1, 11, 1));
        probe.due(3, "insert(0)", m -> m.insert(0));
        probe.due(2, "pin(11)", m -> m.pin(11)).due(0, "count(5)", m -> m.count(5));
        probe.due(1, "pin(12)", m -> m.pin(12)).due(0, "eject()", CashMachine::eject);
        probe.due(3, "insert(1)", m -> m.insert(1)).due(1, "eject()", CashMachine::eject);
        probe.due(1, "insert(0) again", m -> m.insert(0)).due(3, "pin(10)", m -> m.pin(10));
        probe.due(1, "count(5)", m -> m.count(5)).due(0, "eject()", CashMachine::eject);
        probe.due(3, "insert(0) after a right one", m -> m.insert(0)).due(2, "pin(0)", m -> m.pin(0));
    }

    private static void pinThatIsWrongThriceBlocks() {
        Probe probe = new Probe("5: pin blocks");
        probe.due(1, "open(2, 10, 77)", m -> m.open(2, 10, 77)).due(3, "insert(2)", m -> m.insert(2));
        block(probe, 2);
        probe.due(-1, "count(4)", m -> m.count(4)).due(1, "count(7)", m -> m.count(7));
        probe.due(1, "count(3)", m -> m.count(3)).badState("pin(10)", m -> m.pin(10));
        probe.badState("eject()", CashMachine::eject).unsupported("insert(2)", m -> m.insert(2));
        probe.due(77, "balance(2)", m -> m.balance(2));
    }

    private static void block(Probe probe, int left) {
        for (int i = left; i >= 0; i--) {
            probe.due(i, "pin(9998)", m -> m.pin(9998));
        }
    }

    private static void pinTakesAnyNumberAsWrong() {
        Probe probe = new Probe("5: pin out of range is a wrong one");
        probe.due(1, "open(0, 0, 1)", m -> m.open(0, 0, 1)).due(3, "insert(0)", m -> m.insert(0));
        probe.due(2, "pin(-1)", m -> m.pin(-1)).due(1, "pin(10000)", m -> m.pin(10000));
        probe.due(0, "pin(least)", m -> m.pin(LEAST)).due(1, "count(7)", m -> m.count(7));
    }

    private static void pinRefusals() {
        Probe probe = new Probe("5: pin refuses");
        probe.badState("pin(0)", m -> m.pin(0)).session(0, 1);
        probe.badState("pin(0) verified", m -> m.pin(0)).badState("pin(1) verified", m -> m.pin(1));
        probe.due(0, "eject()", CashMachine::eject).badState("pin(0)", m -> m.pin(0));
        probe.due(3, "insert(0)", m -> m.insert(0));
    }

    private static void ejectEndsTheSession() {
        Probe probe = new Probe("6: eject").session(6, 5);
        probe.due(6, "eject()", CashMachine::eject).due(-1, "count(4)", m -> m.count(4));
        probe.due(0, "count(5)", m -> m.count(5)).badState("eject()", CashMachine::eject);
        probe.due(3, "insert(6)", m -> m.insert(6)).due(6, "eject() not verified", CashMachine::eject);
    }

    private static void balanceOfAccounts() {
        Probe probe = new Probe("14: balance").loaded(0, 10, 9).session(1, 95);
        probe.due(95, "balance(1)", m -> m.balance(1)).due(30, "withdraw(30)", m -> m.withdraw(30));
        probe.due(65, "balance(1)", m -> m.balance(1));
        for (int wrong : new int[] {LEAST, -1, 0, 2, 8, MOST}) {
            probe.noElement("balance(" + wrong + ")", m -> m.balance(wrong));
        }
    }
}
