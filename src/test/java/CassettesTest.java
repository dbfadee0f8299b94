/** Promises 3 (load), 8 (mix), 10 (jam) and 17 (notes). */
final class CassettesTest {
    private static final int LEAST = Integer.MIN_VALUE;
    private static final int MOST = Integer.MAX_VALUE;

    public static void main(String[] args) {
        loadAnswersWhatItHad();
        loadRefusals();
        loadWhenDown();
        mixOfTheFewestNotes();
        mixWithinWhatIsThere();
        mixOfSeveralTakesTheFirstCassettes();
        mixFollowsTheCassettes();
        mixRefusals();
        mixOfEveryAmountAsBySearch();
        jamStopsThePayment();
        jamThatIsNotReachedIsOver();
        jamIsReplacedAndTakenAway();
        jamWaitsForAPayment();
        jamRefusals();
        notesPaidInOrderOfValue();
        notesRefusals();
        Probe.end();
    }

    private static void loadAnswersWhatItHad() {
        Probe probe = new Probe("3: load");
        probe.due(0, "load(0, 20, 7)", m -> m.load(0, 20, 7)).due(140, "load(0, 500, 50)", m -> m.load(0, 500, 50));
        probe.due(25000, "load(0, 1, 0)", m -> m.load(0, 1, 0)).due(0, "load(0, 3, 4)", m -> m.load(0, 3, 4));
        probe.due(0, "load(3, 1, 50)", m -> m.load(3, 1, 50)).notesAre(4, 0, 0, 50);
        probe.session(0, 100).due(6, "withdraw(6)", m -> m.withdraw(6)).due(0, "eject()", CashMachine::eject);
        probe.due(6, "load(0, 9, 9) after a payment", m -> m.load(0, 9, 9)).notesAre(9, 0, 0, 50);
    }

    private static void loadRefusals() {
        Probe probe = new Probe("3: load refuses").loaded(0, 5, 5);
        for (int wrong : new int[] {LEAST, -1, 4, MOST}) {
            probe.badArgument("load(" + wrong + ", 1, 1)", m -> m.load(wrong, 1, 1));
        }
        for (int wrong : new int[] {LEAST, -1, 0, 501, MOST}) {
            probe.badArgument("load(0, " + wrong + ", 1)", m -> m.load(0, wrong, 1));
        }
        for (int wrong : new int[] {LEAST, -1, 51, MOST}) {
            probe.badArgument("load(0, 1, " + wrong + ")", m -> m.load(0, 1, wrong));
        }
        probe.due(1, "open(0, 0, 0)", m -> m.open(0, 0, 0)).due(3, "insert(0)", m -> m.insert(0));
        probe.badState("load(0, 1, 1) in a session", m -> m.load(0, 1, 1));
        probe.badArgument("load(4, 1, 1) in a session", m -> m.load(4, 1, 1));
        probe.due(0, "eject()", CashMachine::eject).due(25, "load(0, 1, 1)", m -> m.load(0, 1, 1));
    }

    private static void loadWhenDown() {
        Probe probe = new Probe("3: load when DOWN").loaded(0, 5, 5).session(0, 50);
        probe.due(1, "power(2)", m -> m.power(2)).due(CashMachine.POWER, "withdraw(5)", m -> m.withdraw(5));
        probe.due(25, "load(0, 2, 2)", m -> m.load(0, 2, 2)).due(0, "count(3)", m -> m.count(3));
    }

    private static void mixOfTheFewestNotes() {
        new Probe("8: the greedy mix is not the fewest").loaded(0, 50, 9).loaded(1, 40, 9).loaded(2, 1, 50)
                .mixIs(80, 0, 2, 0, 0).mixIs(90, 1, 1, 0, 0).mixIs(120, 0, 3, 0, 0).mixIs(1, 0, 0, 1, 0);
        new Probe("8: the greedy mix does not come out").loaded(0, 50, 3).loaded(1, 20, 10).loaded(2, 20, 0)
                .mixIs(110, 1, 3, 0, 0).mixIs(60, 0, 3, 0, 0).mixIs(150, 3, 0, 0, 0);
        new Probe("8: the greater value behind").loaded(0, 1, 50).loaded(3, 10, 4)
                .mixIs(45, 5, 0, 0, 4).mixIs(90, 50, 0, 0, 4).mixIs(10, 0, 0, 0, 1);
    }

    private static void mixWithinWhatIsThere() {
        Probe probe = new Probe("8: at most as many as are there");
        probe.loaded(0, 500, 50).loaded(1, 7, 50).loaded(2, 7, 9).loaded(3, 3, 50);
        probe.mixIs(400, 0, 50, 5, 5).mixIs(5000, 10, 0, 0, 0).mixIs(100, 0, 13, 0, 3);
        new Probe("8: all that is there").loaded(0, 25, 50).loaded(1, 25, 50).loaded(2, 25, 50).loaded(3, 25, 50)
                .mixIs(5000, 50, 50, 50, 50).mixIs(4975, 50, 50, 50, 49);
        new Probe("8: far more than is asked for").loaded(0, 500, 50).loaded(1, 499, 50).loaded(2, 500, 50)
                .loaded(3, 499, 50).mixIs(5000, 10, 0, 0, 0).mixIs(4999, 9, 1, 0, 0).mixIs(499, 0, 1, 0, 0)
                .unsupported("mix(0, 1)", m -> m.mix(0, 1));
        new Probe("8: one note too few").loaded(0, 1, 49).loaded(2, 100, 3)
                .mixIs(349, 49, 0, 3, 0).unsupported("mix(0, 350)", m -> m.mix(0, 350))
                .unsupported("mix(0, 50)", m -> m.mix(0, 50));
    }

    private static void mixOfSeveralTakesTheFirstCassettes() {
        new Probe("8: same values").loaded(0, 10, 2).loaded(1, 10, 2).loaded(2, 10, 2).loaded(3, 10, 2)
                .mixIs(10, 1, 0, 0, 0).mixIs(30, 2, 1, 0, 0).mixIs(50, 2, 2, 1, 0).mixIs(70, 2, 2, 2, 1);
        new Probe("8: 40 is 30 + 10 or 20 + 20").loaded(0, 20, 5).loaded(1, 30, 5).loaded(2, 10, 5)
                .mixIs(40, 2, 0, 0, 0);
        new Probe("8: 30 + 10 when 10 is in cassette 0").loaded(0, 10, 5).loaded(1, 20, 5).loaded(2, 30, 5)
                .mixIs(40, 1, 0, 1, 0);
        new Probe("8: most of cassette 1 then").loaded(1, 20, 5).loaded(2, 30, 5).loaded(3, 10, 5)
                .mixIs(40, 0, 2, 0, 0);
        new Probe("8: most of cassette 2 then").loaded(2, 10, 3).loaded(3, 10, 3).mixIs(40, 0, 0, 3, 1);
    }

    private static void mixFollowsTheCassettes() {
        Probe probe = new Probe("8: as the cassettes are").loaded(0, 50, 2).loaded(1, 10, 20).session(0, 1000);
        probe.mixIs(100, 2, 0, 0, 0).due(50, "withdraw(50)", m -> m.withdraw(50)).mixIs(100, 1, 5, 0, 0);
        probe.notesAre(1, 20, 0, 0).due(1, "count(0)", m -> m.count(0));
    }

    private static void mixRefusals() {
        Probe probe = new Probe("8: mix refuses").loaded(0, 500, 50);
        for (int wrong : new int[] {LEAST, -1, 4, MOST}) {
            probe.badArgument("mix(" + wrong + ", 500)", m -> m.mix(wrong, 500));
        }
        for (int wrong : new int[] {LEAST, -1, 0, 5001, 5500, MOST}) {
            probe.badArgument("mix(0, " + wrong + ")", m -> m.mix(0, wrong));
        }
        probe.badArgument("mix(4, 1)", m -> m.mix(4, 1)).unsupported("mix(0, 1)", m -> m.mix(0, 1));
        probe.unsupported("mix(3, 4999)", m -> m.mix(3, 4999)).due(0, "mix(3, 5000)", m -> m.mix(3, 5000));
    }

    private static void mixOfEveryAmountAsBySearch() {
        int[][] loads = {
            {7, 9, 5, 11, 3, 4, 13, 6}, {20, 5, 50, 4, 20, 9, 5, 10}, {1, 50, 499, 3, 500, 3, 2, 50},
            {6, 8, 10, 8, 15, 8, 15, 3}, {12, 10, 12, 3, 18, 7, 24, 7},
        };
        for (int[] load : loads) {
            for (int amount = 1; amount <= 700; amount++) {
                compareWithSearch(load, amount);
            }
        }
    }

    private static void compareWithSearch(int[] load, int amount) {
        Probe probe = new Probe("8: mix as by search").loaded(0, load[0], load[1]).loaded(1, load[2], load[3])
                .loaded(2, load[4], load[5]).loaded(3, load[6], load[7]);
        int[] best = Model.search(new int[] {load[0], load[2], load[4], load[6]},
                new int[] {load[1], load[3], load[5], load[7]}, amount);
        if (best == null) {
            probe.compare("mix(0, " + amount + ")", "UnsupportedOperationException",
                    probe.answer(m -> m.mix(0, amount)));
        } else {
            probe.mixIs(amount, best);
        }
    }

    private static void jamStopsThePayment() {
        Probe probe = new Probe("10: jam").loaded(0, 20, 5).loaded(3, 50, 5).session(2, 1000);
        probe.due(1, "jam(3)", m -> m.jam(3)).due(150, "withdraw(190)", m -> m.withdraw(190));
        probe.notesAre(5, 0, 0, 2).traceIs(1, 3, 2, 190, 150).pendingAre(40);
        probe.due(810, "balance(2)", m -> m.balance(2)).due(150, "count(6)", m -> m.count(6));
        probe.due(40, "difference()", CashMachine::difference);
        probe.due(40, "withdraw(40) behind it", m -> m.withdraw(40)).pendingAre(40);
        probe.due(1, "jam(0)", m -> m.jam(0)).due(0, "withdraw(20)", m -> m.withdraw(20));
        probe.notesAre(3, 0, 0, 2).traceIs(3, 3, 2, 20, 0).pendingAre(40, 20);
    }

    private static void jamThatIsNotReachedIsOver() {
        Probe probe = new Probe("10: jam of as many notes as there are").loaded(0, 10, 50).session(0, 1000);
        probe.due(1, "jam(4)", m -> m.jam(4)).due(40, "withdraw(40)", m -> m.withdraw(40)).pendingAre();
        probe.due(50, "withdraw(50)", m -> m.withdraw(50)).pendingAre();
        probe.due(1, "jam(100)", m -> m.jam(100)).due(400, "withdraw(400)", m -> m.withdraw(400)).pendingAre();
    }

    private static void jamIsReplacedAndTakenAway() {
        Probe probe = new Probe("10: jam in place of one set").loaded(0, 10, 50).session(0, 1000);
        probe.due(1, "jam(1)", m -> m.jam(1)).due(1, "jam(2)", m -> m.jam(2));
        probe.due(20, "withdraw(30)", m -> m.withdraw(30)).due(1, "jam(1)", m -> m.jam(1));
        probe.due(0, "jam(-1)", m -> m.jam(-1)).due(30, "withdraw(30)", m -> m.withdraw(30)).pendingAre(10);
        probe.due(0, "jam(-1)", m -> m.jam(-1));
        Probe hundred = new Probe("10: jam of 100").loaded(0, 1, 50).loaded(1, 1, 50).loaded(2, 1, 50).session(0, 200);
        hundred.due(1, "jam(100)", m -> m.jam(100)).due(100, "withdraw(101)", m -> m.withdraw(101)).pendingAre(1);
    }

    private static void jamWaitsForAPayment() {
        Probe probe = new Probe("10: jam waits for a payment").loaded(0, 10, 50).session(0, 100);
        probe.due(1, "jam(1)", m -> m.jam(1)).due(CashMachine.DECLINED, "withdraw(110)", m -> m.withdraw(110));
        probe.due(1, "line(1)", m -> m.line(1)).due(CashMachine.NO_ANSWER, "withdraw(20)", m -> m.withdraw(20));
        probe.due(1, "power(3)", m -> m.power(3)).due(CashMachine.POWER, "withdraw(20)", m -> m.withdraw(20));
        probe.due(2, "boot()", CashMachine::boot).sessionAgain(0);
        probe.due(10, "withdraw(20)", m -> m.withdraw(20)).pendingAre(20, 20, 10);
    }

    private static void jamRefusals() {
        Probe probe = new Probe("10: jam refuses").loaded(0, 10, 50).session(0, 100);
        probe.due(1, "jam(2)", m -> m.jam(2));
        for (int wrong : new int[] {LEAST, -2, 101, MOST}) {
            probe.badArgument("jam(" + wrong + ")", m -> m.jam(wrong));
        }
        probe.due(20, "withdraw(30)", m -> m.withdraw(30));
    }

    private static void notesPaidInOrderOfValue() {
        Probe probe = new Probe("17: notes of greater values first").loaded(0, 1, 3).loaded(1, 5, 1).loaded(2, 20, 1)
                .loaded(3, 10, 1).session(0, 100);
        probe.due(1, "jam(2)", m -> m.jam(2)).due(30, "withdraw(38)", m -> m.withdraw(38)).notesAre(3, 1, 0, 0);
        probe.due(1, "jam(2)", m -> m.jam(2)).due(6, "withdraw(8)", m -> m.withdraw(8)).notesAre(2, 0, 0, 0);
        Probe same = new Probe("17: of the same value the lesser number first").loaded(0, 1, 5).loaded(1, 30, 2)
                .loaded(2, 5, 1).loaded(3, 30, 2).session(0, 200);
        same.due(1, "jam(3)", m -> m.jam(3)).due(90, "withdraw(125)", m -> m.withdraw(125)).notesAre(5, 0, 1, 1);
    }

    private static void notesRefusals() {
        Probe probe = new Probe("17: notes refuses").loaded(2, 5, 50).notesAre(0, 0, 50, 0);
        for (int wrong : new int[] {LEAST, -1, 4, MOST}) {
            probe.badArgument("notes(" + wrong + ")", m -> m.notes(wrong));
        }
    }
}
