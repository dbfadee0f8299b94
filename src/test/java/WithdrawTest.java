/** Promises 7 (withdraw) and 15 (trace). */
final class WithdrawTest {
    private static final int LEAST = Integer.MIN_VALUE;
    private static final int MOST = Integer.MAX_VALUE;

    public static void main(String[] args) {
        withdrawPresents();
        withdrawAtTheEdges();
        withdrawDeclined();
        withdrawWithoutAnAnswer();
        withdrawRefusals();
        withdrawTestsInOrder();
        withdrawAtMostFortyTimes();
        refusedWithdrawalsTakeNothing();
        traceOfEachState();
        traceRefusals();
        Probe.end();
    }

    private static void withdrawPresents() {
        Probe probe = new Probe("7: withdraw").loaded(0, 50, 3).loaded(1, 20, 10).loaded(2, 5, 4).session(0, 500);
        probe.due(110, "withdraw(110)", m -> m.withdraw(110)).notesAre(1, 10, 2, 0);
        probe.due(390, "balance(0)", m -> m.balance(0)).due(0, "count(4)", m -> m.count(4));
        probe.due(1, "count(5)", m -> m.count(5)).due(60, "withdraw(60)", m -> m.withdraw(60));
        probe.notesAre(0, 10, 0, 0).due(330, "balance(0)", m -> m.balance(0)).pendingAre();
        probe.due(2, "count(0)", m -> m.count(0)).due(170, "count(6)", m -> m.count(6));
    }

    private static void withdrawAtTheEdges() {
        Probe probe = new Probe("7: withdraw at the edges").loaded(0, 500, 10).loaded(1, 1, 1).session(0, 5001);
        probe.due(5000, "withdraw(5000)", m -> m.withdraw(5000)).due(1, "withdraw(1)", m -> m.withdraw(1));
        probe.due(0, "balance(0)", m -> m.balance(0)).notesAre(0, 0, 0, 0);
        probe.unsupported("withdraw(1)", m -> m.withdraw(1));
    }

    private static void withdrawDeclined() {
        Probe probe = new Probe("7: declined").loaded(0, 25, 9).session(4, 50);
        probe.due(CashMachine.DECLINED, "withdraw(75)", m -> m.withdraw(75)).traceIs(1, 4, 4, 75, 0).pendingAre();
        probe.due(4, "count(4)", m -> m.count(4)).due(1, "count(5)", m -> m.count(5)).notesAre(9);
        probe.due(50, "withdraw(50)", m -> m.withdraw(50)).due(0, "balance(4)", m -> m.balance(4));
        probe.due(CashMachine.DECLINED, "withdraw(25)", m -> m.withdraw(25)).due(0, "balance(4)", m -> m.balance(4));
        probe.due(3, "count(0)", m -> m.count(0));
    }

    private static void withdrawWithoutAnAnswer() {
        Probe probe = new Probe("7: no answer").loaded(0, 10, 50).session(1, 300);
        probe.due(1, "line(1)", m -> m.line(1)).due(CashMachine.NO_ANSWER, "withdraw(50)", m -> m.withdraw(50));
        probe.due(300, "balance(1)", m -> m.balance(1)).traceIs(1, 4, 1, 50, 0).pendingAre(50);
        probe.due(1, "line(2)", m -> m.line(2)).due(CashMachine.NO_ANSWER, "withdraw(60)", m -> m.withdraw(60));
        probe.due(240, "balance(1)", m -> m.balance(1)).traceIs(2, 4, 1, 60, 0).pendingAre(50, 60);
        probe.due(1, "line(2)", m -> m.line(2));
        probe.due(CashMachine.NO_ANSWER, "withdraw(250) that is declined", m -> m.withdraw(250));
        probe.due(240, "balance(1)", m -> m.balance(1)).pendingAre(50, 60, 250).notesAre(50);
        probe.due(1, "count(4)", m -> m.count(4)).due(1, "count(5)", m -> m.count(5));
    }

    private static void withdrawRefusals() {
        Probe probe = new Probe("7: withdraw refuses").loaded(0, 10, 50);
        probe.badState("withdraw(10) without a session", m -> m.withdraw(10));
        probe.due(1, "open(0, 0, 100)", m -> m.open(0, 0, 100)).due(3, "insert(0)", m -> m.insert(0));
        probe.badState("withdraw(10) not verified", m -> m.withdraw(10));
        probe.due(3, "pin(0)", m -> m.pin(0));
        for (int wrong : new int[] {LEAST, -10, 0, 5001, 5010, MOST}) {
            probe.badArgument("withdraw(" + wrong + ")", m -> m.withdraw(wrong));
        }
        probe.unsupported("withdraw(15)", m -> m.withdraw(15)).unsupported("withdraw(510)", m -> m.withdraw(510));
        probe.due(10, "withdraw(10)", m -> m.withdraw(10));
    }

    private static void withdrawTestsInOrder() {
        Probe probe = new Probe("7: withdraw tests in order").loaded(0, 1, 50);
        probe.badState("withdraw(0) without a session", m -> m.withdraw(0));
        probe.badState("withdraw(99) without a session", m -> m.withdraw(99)).session(0, 100);
        for (int i = 0; i < 40; i++) {
            probe.due(1, "withdraw(1)", m -> m.withdraw(1));
        }
        probe.badArgument("withdraw(0) with 40 traces", m -> m.withdraw(0));
        probe.unsupported("withdraw(11) with 40 traces", m -> m.withdraw(11));
        probe.outOfBounds("withdraw(1) with 40 traces", m -> m.withdraw(1));
        probe.due(0, "eject()", CashMachine::eject).badState("withdraw(1)", m -> m.withdraw(1));
    }

    private static void withdrawAtMostFortyTimes() {
        Probe probe = new Probe("7: forty traces of any end").loaded(0, 1, 50).session(0, 10);
        for (int i = 0; i < 10; i++) {
            probe.due(CashMachine.DECLINED, "withdraw(20)", m -> m.withdraw(20));
            probe.due(1, "line(1)", m -> m.line(1)).due(CashMachine.NO_ANSWER, "withdraw(1)", m -> m.withdraw(1));
            probe.due(1, "jam(0)", m -> m.jam(0)).due(0, "withdraw(1)", m -> m.withdraw(1));
            probe.due(1, "power(1)", m -> m.power(1)).due(CashMachine.POWER, "withdraw(1)", m -> m.withdraw(1));
            probe.due(3 * i + 3, "boot()", CashMachine::boot).due(4 * i + 4, "count(0)", m -> m.count(0));
            probe.sessionAgain(0);
        }
        probe.outOfBounds("withdraw(1)", m -> m.withdraw(1)).due(40, "count(0)", m -> m.count(0));
        probe.due(30, "settle()", CashMachine::settle).due(10, "balance(0)", m -> m.balance(0));
        probe.outOfBounds("withdraw(1) after settling", m -> m.withdraw(1));
        probe.due(0, "difference()", CashMachine::difference);
        Probe lost = new Probe("7: forty reversals").loaded(0, 1, 50).session(0, 40);
        for (int i = 0; i < 40; i++) {
            lost.due(1, "line(2)", m -> m.line(2)).due(CashMachine.NO_ANSWER, "withdraw(1)", m -> m.withdraw(1));
        }
        lost.due(0, "balance(0)", m -> m.balance(0)).due(1, "reversal(39)", m -> m.reversal(39));
        lost.due(40, "settle()", CashMachine::settle).due(40, "balance(0)", m -> m.balance(0));
    }

    private static void refusedWithdrawalsTakeNothing() {
        Probe probe = new Probe("7: a refused withdrawal takes nothing").loaded(0, 10, 3).session(0, 99);
        probe.due(1, "line(1)", m -> m.line(1)).due(1, "jam(0)", m -> m.jam(0));
        probe.unsupported("withdraw(40)", m -> m.withdraw(40)).badArgument("withdraw(0)", m -> m.withdraw(0));
        probe.due(CashMachine.NO_ANSWER, "withdraw(10)", m -> m.withdraw(10));
        probe.due(1, "power(1)", m -> m.power(1)).unsupported("withdraw(40)", m -> m.withdraw(40));
        probe.due(1, "count(3)", m -> m.count(3)).due(0, "power(0)", m -> m.power(0));
        probe.due(0, "withdraw(10)", m -> m.withdraw(10)).due(10, "withdraw(10)", m -> m.withdraw(10));
    }

    private static void traceOfEachState() {
        Probe probe = new Probe("15: trace").loaded(0, 10, 50).session(3, 100);
        probe.due(30, "withdraw(30)", m -> m.withdraw(30)).traceIs(1, 3, 3, 30, 30);
        probe.due(CashMachine.DECLINED, "withdraw(80)", m -> m.withdraw(80)).traceIs(2, 4, 3, 80, 0);
        probe.due(3, "eject()", CashMachine::eject).session(5, 70);
        probe.due(1, "power(2)", m -> m.power(2)).due(CashMachine.POWER, "withdraw(20)", m -> m.withdraw(20));
        probe.traceIs(3, 1, 5, 20, 0).due(1, "boot()", CashMachine::boot).traceIs(3, 4, 5, 20, 0);
        probe.sessionAgain(5).due(1, "power(4)", m -> m.power(4));
        probe.due(CashMachine.POWER, "withdraw(10)", m -> m.withdraw(10)).traceIs(4, 2, 5, 10, 0);
        probe.due(1, "boot()", CashMachine::boot).traceIs(4, 3, 5, 10, 10).traceIs(1, 3, 3, 30, 30);
    }

    private static void traceRefusals() {
        Probe probe = new Probe("15: trace refuses").loaded(0, 10, 50).session(0, 100);
        probe.due(30, "withdraw(30)", m -> m.withdraw(30));
        for (int wrong : new int[] {LEAST, -1, 0, 2, 40, 41, MOST}) {
            probe.noElement("trace(" + wrong + ", 0)", m -> m.trace(wrong, 0));
            probe.noElement("trace(" + wrong + ", 4)", m -> m.trace(wrong, 4));
        }
        for (int wrong : new int[] {LEAST, -1, 4, MOST}) {
            probe.badArgument("trace(1, " + wrong + ")", m -> m.trace(1, wrong));
        }
    }
}
