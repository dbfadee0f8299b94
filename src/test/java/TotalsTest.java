/** Promises 18 (difference) and 19 (count). */
final class TotalsTest {
    public static void main(String[] args) {
        differenceOfEachEnd();
        differenceIsNotMovedByLoadAndOpen();
        differenceOverAllAccounts();
        countOfEach();
        countRefusals();
        Probe.end();
    }

    private static void differenceOfEachEnd() {
        Probe probe = new Probe("18: difference").loaded(0, 10, 50).session(1, 300);
        probe.due(50, "withdraw(50)", m -> m.withdraw(50)).due(0, "difference()", CashMachine::difference);
        probe.due(CashMachine.DECLINED, "withdraw(260)", m -> m.withdraw(260));
        probe.due(0, "difference()", CashMachine::difference).due(1, "line(1)", m -> m.line(1));
        probe.due(CashMachine.NO_ANSWER, "withdraw(20)", m -> m.withdraw(20));
        probe.due(0, "difference()", CashMachine::difference).due(1, "line(2)", m -> m.line(2));
        probe.due(CashMachine.NO_ANSWER, "withdraw(30)", m -> m.withdraw(30));
        probe.due(30, "difference()", CashMachine::difference).due(1, "jam(1)", m -> m.jam(1));
        probe.due(10, "withdraw(50)", m -> m.withdraw(50)).due(70, "difference()", CashMachine::difference);
        probe.due(3, "settle()", CashMachine::settle).due(0, "difference()", CashMachine::difference);
    }

    /** Loading and opening are no withdrawals, and what was presented stays presented. */
    private static void differenceIsNotMovedByLoadAndOpen() {
        Probe probe = new Probe("18: difference stays").loaded(0, 10, 50).session(1, 300);
        probe.due(50, "withdraw(50)", m -> m.withdraw(50)).due(1, "eject()", CashMachine::eject);
        probe.due(450, "load(0, 1, 1)", m -> m.load(0, 1, 1)).due(2, "open(0, 0, 700)", m -> m.open(0, 0, 700));
        probe.due(0, "difference()", CashMachine::difference).due(50, "count(6)", m -> m.count(6));
    }

    private static void differenceOverAllAccounts() {
        Probe probe = new Probe("18: difference over all accounts").loaded(0, 500, 50);
        for (int i = 0; i < 8; i++) {
            int account = i;
            probe.session(account, 1000000).due(1, "line(2)", m -> m.line(2));
            probe.due(CashMachine.NO_ANSWER, "withdraw(5000)", m -> m.withdraw(5000));
            probe.due(5000 * (i + 1), "difference()", CashMachine::difference);
            probe.due(500, "withdraw(500)", m -> m.withdraw(500)).due(account, "eject()", CashMachine::eject);
        }
        probe.due(4000, "count(6)", m -> m.count(6)).due(8, "settle()", CashMachine::settle);
        probe.due(0, "difference()", CashMachine::difference).due(999500, "balance(7)", m -> m.balance(7));
    }

    private static void countOfEach() {
        Probe probe = new Probe("19: count").loaded(0, 10, 50).session(6, 300);
        probe.due(1, "line(1)", m -> m.line(1)).due(2, "line(0)", m -> m.line(0)).due(3, "line(0)", m -> m.line(0));
        probe.due(CashMachine.NO_ANSWER, "withdraw(20)", m -> m.withdraw(20));
        probe.due(50, "withdraw(50)", m -> m.withdraw(50));
        countsAre(probe, 2, 1, 1, 1, 6, 1, 50, 0);
        probe.due(1, "power(4)", m -> m.power(4)).due(CashMachine.POWER, "withdraw(30)", m -> m.withdraw(30));
        countsAre(probe, 3, 1, 0, 0, -1, 0, 80, 0);
        probe.due(1, "boot()", CashMachine::boot).due(3, "insert(6)", m -> m.insert(6));
        countsAre(probe, 3, 1, 0, 1, 6, 0, 80, 0);
        probe.due(2, "pin(1)", m -> m.pin(1)).due(1, "pin(1)", m -> m.pin(1)).due(0, "pin(1)", m -> m.pin(1));
        countsAre(probe, 3, 1, 0, 1, -1, 0, 80, 1);
        probe.due(2, "open(0, 0, 1)", m -> m.open(0, 0, 1)).due(3, "insert(0)", m -> m.insert(0));
        probe.due(2, "pin(1)", m -> m.pin(1)).due(1, "pin(1)", m -> m.pin(1)).due(0, "pin(1)", m -> m.pin(1));
        countsAre(probe, 3, 1, 0, 1, -1, 0, 80, 2);
    }

    private static void countsAre(Probe probe, int... want) {
        for (int i = 0; i < want.length; i++) {
            int what = i;
            probe.due(want[i], "count(" + i + ")", m -> m.count(what));
        }
    }

    private static void countRefusals() {
        Probe probe = new Probe("19: count refuses");
        for (int wrong : new int[] {Integer.MIN_VALUE, -1, 8, Integer.MAX_VALUE}) {
            probe.badArgument("count(" + wrong + ")", m -> m.count(wrong));
        }
    }
}
