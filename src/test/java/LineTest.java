/** Promises 9 (line), 13 (settle) and 16 (reversal). */
final class LineTest {
    private static final int LEAST = Integer.MIN_VALUE;
    private static final int MOST = Integer.MAX_VALUE;

    public static void main(String[] args) {
        lineTakesEightFates();
        lineRefusals();
        lineFatesAreTakenInOrder();
        lineThatDoublesARequest();
        settleSendsInOrder();
        settleStopsWhereNoAnswerComes();
        settleThatIsNotHeardOfIsNotDoneTwice();
        settleThatArrivesTwice();
        settleGivesBackOnlyWhatWasTaken();
        settleToTheAccountOfTheTrace();
        settleWhenDown();
        reversalRefusals();
        Probe.end();
    }

    private static void lineTakesEightFates() {
        Probe probe = new Probe("9: line");
        for (int i = 0; i < 8; i++) {
            int fate = i % 4;
            probe.due(i + 1, "line(" + fate + ")", m -> m.line(fate));
        }
        probe.badState("line(0)", m -> m.line(0)).badState("line(3)", m -> m.line(3));
        probe.badArgument("line(4)", m -> m.line(4)).due(8, "count(2)", m -> m.count(2));
    }

    private static void lineRefusals() {
        Probe probe = new Probe("9: line refuses");
        for (int wrong : new int[] {LEAST, -1, 4, MOST}) {
            probe.badArgument("line(" + wrong + ")", m -> m.line(wrong));
        }
    }

    private static void lineFatesAreTakenInOrder() {
        Probe probe = new Probe("9: fates are taken in order").loaded(0, 10, 50).session(1, 300);
        for (int fate : new int[] {0, 1, 2, 3, 1, 0, 0, 2}) {
            probe.compare("line(" + fate + ")", "true", String.valueOf(probe.machine.line(fate) > 0));
        }
        int[] due = {10, -2, -2, 10, -2, 10, 10, -2, 10, 10};
        for (int i = 0; i < due.length; i++) {
            probe.due(due[i], "withdraw(10)", m -> m.withdraw(10));
            probe.due(Math.max(0, 7 - i), "count(2)", m -> m.count(2));
        }
        probe.due(1, "line(1)", m -> m.line(1)).due(CashMachine.NO_ANSWER, "withdraw(10)", m -> m.withdraw(10));
        probe.due(220, "balance(1)", m -> m.balance(1));
    }

    private static void lineThatDoublesARequest() {
        Probe probe = new Probe("9: what arrives twice counts once").loaded(0, 10, 50).session(1, 100);
        probe.due(1, "line(3)", m -> m.line(3)).due(70, "withdraw(70)", m -> m.withdraw(70));
        probe.due(30, "balance(1)", m -> m.balance(1)).notesAre(43).pendingAre();
        probe.due(1, "line(3)", m -> m.line(3)).due(CashMachine.DECLINED, "withdraw(40)", m -> m.withdraw(40));
        probe.due(30, "balance(1)", m -> m.balance(1)).due(0, "difference()", CashMachine::difference);
        probe.due(1, "line(3)", m -> m.line(3)).due(20, "withdraw(20)", m -> m.withdraw(20));
        probe.due(10, "balance(1)", m -> m.balance(1));
    }

    private static Probe threePending(String what) {
        Probe probe = new Probe(what).loaded(0, 10, 50).session(1, 300);
        for (int i = 1; i <= 3; i++) {
            int amount = 10 * i;
            probe.due(1, "line(2)", m -> m.line(2));
            probe.due(CashMachine.NO_ANSWER, "withdraw(" + amount + ")", m -> m.withdraw(amount));
        }
        return probe.pendingAre(10, 20, 30).due(240, "balance(1)", m -> m.balance(1));
    }

    private static void settleSendsInOrder() {
        Probe probe = threePending("13: settle");
        probe.due(3, "settle()", CashMachine::settle).pendingAre().due(300, "balance(1)", m -> m.balance(1));
        probe.due(0, "settle() again", CashMachine::settle).due(300, "balance(1)", m -> m.balance(1));
        probe.due(1, "line(1)", m -> m.line(1)).due(0, "settle() of none", CashMachine::settle);
        probe.due(1, "count(2)", m -> m.count(2)).due(1, "count(4)", m -> m.count(4));
        probe.due(1, "eject()", CashMachine::eject).due(0, "settle()", CashMachine::settle);
    }

    private static void settleStopsWhereNoAnswerComes() {
        Probe probe = threePending("13: settle stops");
        probe.due(1, "line(0)", m -> m.line(0)).due(2, "line(1)", m -> m.line(1)).due(3, "line(0)", m -> m.line(0));
        probe.due(1, "settle()", CashMachine::settle).pendingAre(20, 30).due(250, "balance(1)", m -> m.balance(1));
        probe.due(1, "count(2)", m -> m.count(2)).due(2, "line(1)", m -> m.line(1));
        probe.due(1, "settle()", CashMachine::settle).pendingAre(30).due(270, "balance(1)", m -> m.balance(1));
        probe.due(0, "count(2)", m -> m.count(2)).due(1, "settle()", CashMachine::settle).pendingAre();
        probe.due(300, "balance(1)", m -> m.balance(1));
    }

    private static void settleThatIsNotHeardOfIsNotDoneTwice() {
        Probe probe = threePending("13: settle with a lost answer");
        probe.due(1, "line(2)", m -> m.line(2)).due(0, "settle()", CashMachine::settle).pendingAre(10, 20, 30);
        probe.due(250, "balance(1)", m -> m.balance(1)).due(3, "settle()", CashMachine::settle);
        probe.due(300, "balance(1)", m -> m.balance(1)).due(0, "difference()", CashMachine::difference);
    }

    private static void settleThatArrivesTwice() {
        Probe probe = threePending("13: settle that doubles");
        probe.due(1, "line(3)", m -> m.line(3)).due(3, "settle()", CashMachine::settle).pendingAre();
        probe.due(300, "balance(1)", m -> m.balance(1)).due(0, "count(2)", m -> m.count(2));
    }

    private static void settleGivesBackOnlyWhatWasTaken() {
        Probe probe = new Probe("13: settle of what was not approved").loaded(0, 10, 50).session(1, 100);
        probe.due(1, "line(1)", m -> m.line(1)).due(CashMachine.NO_ANSWER, "withdraw(50)", m -> m.withdraw(50));
        probe.due(1, "line(2)", m -> m.line(2));
        probe.due(CashMachine.NO_ANSWER, "withdraw(110) that is declined", m -> m.withdraw(110));
        probe.due(1, "jam(2)", m -> m.jam(2)).due(20, "withdraw(70)", m -> m.withdraw(70)).pendingAre(50, 110, 50);
        probe.due(30, "balance(1)", m -> m.balance(1)).due(3, "settle()", CashMachine::settle);
        probe.due(80, "balance(1)", m -> m.balance(1)).due(0, "difference()", CashMachine::difference);
    }

    private static void settleToTheAccountOfTheTrace() {
        Probe probe = new Probe("13: settle to the right account").loaded(0, 10, 50).session(1, 100);
        probe.due(1, "jam(1)", m -> m.jam(1)).due(10, "withdraw(30)", m -> m.withdraw(30));
        probe.due(1, "eject()", CashMachine::eject).session(2, 100);
        probe.due(1, "jam(2)", m -> m.jam(2)).due(20, "withdraw(50)", m -> m.withdraw(50)).pendingAre(20, 30);
        probe.due(2, "settle()", CashMachine::settle).due(90, "balance(1)", m -> m.balance(1));
        probe.due(80, "balance(2)", m -> m.balance(2));
    }

    private static void settleWhenDown() {
        Probe probe = threePending("13: settle when DOWN");
        probe.due(1, "power(1)", m -> m.power(1)).due(CashMachine.POWER, "withdraw(40)", m -> m.withdraw(40));
        probe.badState("settle()", CashMachine::settle).due(4, "boot()", CashMachine::boot);
        probe.due(4, "settle()", CashMachine::settle).due(300, "balance(1)", m -> m.balance(1));
    }

    private static void reversalRefusals() {
        Probe probe = threePending("16: reversal refuses");
        for (int wrong : new int[] {LEAST, -1, 3, 39, 40, MOST}) {
            probe.noElement("reversal(" + wrong + ")", m -> m.reversal(wrong));
        }
        probe.due(1, "line(0)", m -> m.line(0)).due(2, "line(1)", m -> m.line(1));
        probe.due(1, "settle()", CashMachine::settle).due(30, "reversal(1)", m -> m.reversal(1));
        probe.noElement("reversal(2)", m -> m.reversal(2));
    }
}
