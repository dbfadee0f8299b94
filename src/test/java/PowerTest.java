/** Promises 11 (power) and 12 (boot). */
final class PowerTest {
    private static final int LEAST = Integer.MIN_VALUE;
    private static final int MOST = Integer.MAX_VALUE;

    public static void main(String[] args) {
        powerBeforeTheExchange();
        powerBeforeTheApproval();
        powerBeforeThePayment();
        powerBeforeDone();
        powerEndsTheSession();
        powerWaitsForItsPlace();
        powerIsReplacedAndTakenAway();
        powerHappensOnce();
        powerRefusals();
        bootOnlyWhenDown();
        bootAfterAJam();
        bootKnowsWhomTheDispenserPaid();
        bootAnswersAllThatIsPending();
        Probe.end();
    }

    private static Probe failing(String what, int place) {
        Probe probe = new Probe(what).loaded(0, 20, 5).loaded(1, 50, 5).session(2, 1000);
        return probe.due(1, "power(" + place + ")", m -> m.power(place));
    }

    private static void powerBeforeTheExchange() {
        Probe probe = failing("11: power before (b)", 1).due(1, "line(1)", m -> m.line(1));
        probe.due(CashMachine.POWER, "withdraw(90)", m -> m.withdraw(90)).traceIs(1, 1, 2, 90, 0).pendingAre();
        probe.due(1000, "balance(2)", m -> m.balance(2)).due(1, "count(2)", m -> m.count(2)).notesAre(5, 5);
        probe.due(1, "boot()", CashMachine::boot).traceIs(1, 4, 2, 90, 0).pendingAre(90);
        probe.due(0, "settle()", CashMachine::settle).due(1, "settle()", CashMachine::settle);
        probe.due(1000, "balance(2)", m -> m.balance(2)).due(0, "difference()", CashMachine::difference);
    }

    private static void powerBeforeTheApproval() {
        Probe probe = failing("11: power before (c)", 2).due(1, "line(3)", m -> m.line(3));
        probe.due(CashMachine.POWER, "withdraw(90)", m -> m.withdraw(90)).traceIs(1, 1, 2, 90, 0).pendingAre();
        probe.due(910, "balance(2)", m -> m.balance(2)).due(0, "count(2)", m -> m.count(2)).notesAre(5, 5);
        probe.due(90, "difference()", CashMachine::difference);
        probe.due(1, "boot()", CashMachine::boot).traceIs(1, 4, 2, 90, 0).pendingAre(90);
        probe.due(1, "settle()", CashMachine::settle).due(1000, "balance(2)", m -> m.balance(2));
        probe.due(0, "difference()", CashMachine::difference);
    }

    private static void powerBeforeThePayment() {
        Probe probe = failing("11: power before (d)", 3);
        probe.due(CashMachine.POWER, "withdraw(90)", m -> m.withdraw(90)).traceIs(1, 2, 2, 90, 0).pendingAre();
        probe.due(910, "balance(2)", m -> m.balance(2)).notesAre(5, 5).due(0, "count(6)", m -> m.count(6));
        probe.due(1, "boot()", CashMachine::boot).traceIs(1, 3, 2, 90, 0).pendingAre(90);
        probe.due(1, "settle()", CashMachine::settle).due(1000, "balance(2)", m -> m.balance(2));
    }

    private static void powerBeforeDone() {
        Probe probe = failing("11: power before (e)", 4);
        probe.due(CashMachine.POWER, "withdraw(90)", m -> m.withdraw(90)).traceIs(1, 2, 2, 90, 0).pendingAre();
        probe.due(910, "balance(2)", m -> m.balance(2)).notesAre(3, 4).due(90, "count(6)", m -> m.count(6));
        probe.due(0, "boot()", CashMachine::boot).traceIs(1, 3, 2, 90, 90).pendingAre();
        probe.due(0, "difference()", CashMachine::difference);
    }

    private static void powerEndsTheSession() {
        Probe probe = failing("11: power ends the session", 3);
        probe.due(CashMachine.POWER, "withdraw(90)", m -> m.withdraw(90));
        probe.due(0, "count(3)", m -> m.count(3)).due(-1, "count(4)", m -> m.count(4));
        probe.due(0, "count(5)", m -> m.count(5)).badState("withdraw(20)", m -> m.withdraw(20));
        probe.badState("eject()", CashMachine::eject).badState("pin(2)", m -> m.pin(2));
        probe.badState("insert(2)", m -> m.insert(2)).badState("settle()", CashMachine::settle);
        probe.due(1, "boot()", CashMachine::boot).due(1, "count(3)", m -> m.count(3));
        probe.due(-1, "count(4)", m -> m.count(4)).badState("withdraw(20)", m -> m.withdraw(20));
        probe.due(3, "insert(2)", m -> m.insert(2)).due(0, "count(5)", m -> m.count(5));
    }

    private static void powerWaitsForItsPlace() {
        for (int place = 2; place <= 4; place++) {
            Probe probe = failing("11: power " + place + " waits", place);
            probe.due(CashMachine.DECLINED, "withdraw(20) of a poor account", m -> declined(m));
            probe.due(1, "line(1)", m -> m.line(1)).due(CashMachine.NO_ANSWER, "withdraw(20)", m -> m.withdraw(20));
            probe.due(1, "line(2)", m -> m.line(2)).due(CashMachine.NO_ANSWER, "withdraw(20)", m -> m.withdraw(20));
            probe.due(1, "count(3)", m -> m.count(3));
            probe.due(2, "eject()", CashMachine::eject).sessionAgain(2);
            probe.due(CashMachine.POWER, "withdraw(20)", m -> m.withdraw(20)).due(0, "count(3)", m -> m.count(3));
        }
    }

    /** A poor account beside the session's own is asked for more than it has. */
    private static int declined(CashMachine machine) {
        machine.eject();
        machine.open(7, 7, 10);
        machine.insert(7);
        machine.pin(7);
        int answer = machine.withdraw(20);
        machine.eject();
        machine.insert(2);
        machine.pin(2);
        return answer;
    }

    private static void powerIsReplacedAndTakenAway() {
        Probe probe = failing("11: power in place of one set", 1).due(1, "power(3)", m -> m.power(3));
        probe.due(CashMachine.POWER, "withdraw(20)", m -> m.withdraw(20)).traceIs(1, 2, 2, 20, 0);
        probe.due(1, "boot()", CashMachine::boot).sessionAgain(2);
        probe.due(1, "power(1)", m -> m.power(1)).due(0, "power(0)", m -> m.power(0));
        probe.due(20, "withdraw(20)", m -> m.withdraw(20)).due(0, "power(0)", m -> m.power(0));
    }

    private static void powerHappensOnce() {
        for (int place = 1; place <= 4; place++) {
            Probe probe = failing("11: power " + place + " happens once", place);
            probe.due(CashMachine.POWER, "withdraw(20)", m -> m.withdraw(20));
            probe.due(place == 4 ? 0 : 1, "boot()", CashMachine::boot).sessionAgain(2);
            probe.due(50, "withdraw(50)", m -> m.withdraw(50)).due(1, "count(3)", m -> m.count(3));
        }
    }

    private static void powerRefusals() {
        Probe probe = failing("11: power refuses", 1);
        for (int wrong : new int[] {LEAST, -1, 5, MOST}) {
            probe.badArgument("power(" + wrong + ")", m -> m.power(wrong));
        }
        probe.due(CashMachine.POWER, "withdraw(20)", m -> m.withdraw(20));
        probe.due(1, "power(2) when DOWN", m -> m.power(2)).due(1, "boot()", CashMachine::boot).sessionAgain(2);
        probe.due(CashMachine.POWER, "withdraw(20)", m -> m.withdraw(20)).due(980, "balance(2)", m -> m.balance(2));
    }

    private static void bootOnlyWhenDown() {
        Probe probe = failing("12: boot", 1).badState("boot() when ON", CashMachine::boot);
        probe.due(CashMachine.POWER, "withdraw(20)", m -> m.withdraw(20)).due(1, "boot()", CashMachine::boot);
        probe.badState("boot() again", CashMachine::boot).pendingAre(20);
    }

    private static void bootAfterAJam() {
        Probe probe = failing("12: boot after a jam", 4).due(1, "jam(2)", m -> m.jam(2));
        probe.due(CashMachine.POWER, "withdraw(190)", m -> m.withdraw(190)).notesAre(5, 3).pendingAre();
        probe.due(1, "boot()", CashMachine::boot).traceIs(1, 3, 2, 190, 100).pendingAre(90);
        probe.due(1, "settle()", CashMachine::settle).due(900, "balance(2)", m -> m.balance(2));
        probe.sessionAgain(2).due(150, "withdraw(150)", m -> m.withdraw(150));
        Probe none = failing("12: boot after a jam of 0", 4).due(1, "jam(0)", m -> m.jam(0));
        none.due(CashMachine.POWER, "withdraw(50)", m -> m.withdraw(50)).due(1, "boot()", CashMachine::boot);
        none.traceIs(1, 3, 2, 50, 0).pendingAre(50).notesAre(5, 5);
    }

    private static void bootKnowsWhomTheDispenserPaid() {
        Probe probe = new Probe("12: the dispenser paid for another trace").loaded(0, 20, 9).session(2, 1000);
        probe.due(40, "withdraw(40)", m -> m.withdraw(40)).due(1, "power(3)", m -> m.power(3));
        probe.due(CashMachine.POWER, "withdraw(40)", m -> m.withdraw(40)).due(1, "boot()", CashMachine::boot);
        probe.traceIs(2, 3, 2, 40, 0).pendingAre(40).notesAre(7).due(40, "count(6)", m -> m.count(6));
        probe.due(1, "settle()", CashMachine::settle).due(960, "balance(2)", m -> m.balance(2));
    }

    private static void bootAnswersAllThatIsPending() {
        Probe probe = new Probe("12: boot answers all that is pending").loaded(0, 20, 9).session(2, 1000);
        probe.due(1, "line(1)", m -> m.line(1)).due(CashMachine.NO_ANSWER, "withdraw(60)", m -> m.withdraw(60));
        probe.due(1, "power(4)", m -> m.power(4)).due(CashMachine.POWER, "withdraw(20)", m -> m.withdraw(20));
        probe.due(1, "boot()", CashMachine::boot).pendingAre(60).sessionAgain(2);
        probe.due(1, "power(1)", m -> m.power(1)).due(CashMachine.POWER, "withdraw(40)", m -> m.withdraw(40));
        probe.due(2, "boot()", CashMachine::boot).pendingAre(60, 40);
    }
}
