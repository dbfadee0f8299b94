/** The boundary cases that promises 18 (difference) and 19 (count) name. */
final class TotalsEdgesTest {
    /** Account 1 of 1000 in a verified session, and fifty notes of 10. */
    private static final String TENS = "open(1, 11, 1000) = 1; load(0, 10, 50) = 0; insert(1) = 3; pin(11) = 3\n";

    public static void main(String[] args) {
        difference();
        count();
        countOfStates();
        countRefuses();
        Probe.end();
    }

    private static void difference() {
        Run.of("18: nothing is open, and nothing presented", """
            difference() = 0; load(0, 500, 50) = 0; difference() = 0; open(0, 0, 1000000) = 1; difference() = 0
            """);
        Run.of("18: the balances are less by what was presented", TENS, """
            withdraw(500) = 500; difference() = 0; eject() = 1; load(0, 1, 1) = 0; difference() = 0
            """);
        Run.of("18: what the host took and nobody got, until it is given back", TENS, """
            line(2) = 1; withdraw(500) = NO_ANSWER; difference() = 500; line(1) = 1; settle() = 0; difference() = 500
            line(2) = 1; settle() = 0; difference() = 0; settle() = 1; difference() = 0
            """);
        Run.of("18: what the machine took to be lost, and was", TENS, """
            line(1) = 1; withdraw(500) = NO_ANSWER; difference() = 0; settle() = 1; difference() = 0
            """);
        Run.of("18: all that the dispenser has presented so far, be the record DONE or not", TENS, """
            power(4) = 1; jam(3) = 1; withdraw(50) = POWER; difference() = 20; boot() = 1; difference() = 20
            settle() = 1; difference() = 0
            """);
        Run.of("18: of all accounts together", """
            open(0, 0, 5000) = 1; open(7, 7, 1000000) = 2; load(0, 500, 50) = 0; insert(0) = 3; pin(0) = 3
            line(2) = 1; withdraw(5000) = NO_ANSWER; eject() = 0; insert(7) = 3; pin(7) = 3
            jam(1) = 1; withdraw(5000) = 500; difference() = 9500; line(0) = 1; line(1) = 2; settle() = 1
            difference() = 4500; settle() = 1; difference() = 0; balance(0) = 5000; balance(7) = 999500
            """);
        Run.of("18: the most that can be lost", """
            open(0, 0, 1000000) = 1; load(0, 500, 10) = 0; insert(0) = 3; pin(0) = 3
            """, "line(2) = 1; withdraw(5000) = NO_ANSWER\n".repeat(40), """
            difference() = 200000; balance(0) = 800000; settle() = 40; difference() = 0; balance(0) = 1000000
            """);
    }

    private static void count() {
        Run.of("19: traces (0), up to 40", TENS, "count(0) = 0\n", "withdraw(10) = 10\n".repeat(40), """
            count(0) = 40; withdraw(10) throws IndexOutOfBoundsException; count(0) = 40
            """);
        Run.of("19: reversals pending (1), up to 40", TENS, "count(1) = 0\n",
                "line(1) = 1; withdraw(10) = NO_ANSWER\n".repeat(40), "count(1) = 40; settle() = 40; count(1) = 0");
        Run.of("19: fates to come (2), up to 8", """
            count(2) = 0; line(0) = 1; count(2) = 1; line(1) = 2; line(2) = 3; line(3) = 4; line(0) = 5; line(0) = 6
            line(0) = 7; line(0) = 8; count(2) = 8; line(0) throws IllegalStateException; count(2) = 8
            """);
        Run.of("19: all that was presented (6), over all cassettes, loads and accounts", """
            count(6) = 0; open(0, 0, 1000000) = 1; open(1, 1, 9) = 2; load(0, 500, 50) = 0; insert(0) = 3; pin(0) = 3
            """, "withdraw(5000) = 5000\n".repeat(5), """
            count(6) = 25000; eject() = 0; load(0, 1, 50) = 0; count(6) = 25000; insert(1) = 3; pin(1) = 3
            jam(0) = 1; withdraw(9) = 0; count(6) = 25000; settle() = 1; withdraw(9) = 9; count(6) = 25009
            """);
    }

    private static void countOfStates() {
        Run.of("19: 1 if the machine is ON else 0 (3)", TENS, """
            count(3) = 1; power(1) = 1; count(3) = 1; withdraw(10) = POWER; count(3) = 0; boot() = 1; count(3) = 1
            """);
        for (int account : new int[] {0, 7}) {
            Run.of("19: the account of the session, or -1 (4)", """
                open(%1$d, 5, 5) = 1; count(4) = -1; insert(%1$d) = 3; count(4) = %1$d; pin(5) = 3; count(4) = %1$d
                eject() = %1$d; count(4) = -1
                """.formatted(account));
        }
        Run.of("19: 1 if its card is verified else 0 (5)", """
            count(5) = 0; open(0, 5, 5) = 1; insert(0) = 3; count(5) = 0; pin(4) = 2; count(5) = 0; pin(5) = 3
            count(5) = 1; eject() = 0; count(5) = 0; insert(0) = 3; count(5) = 0
            """);
        StringBuilder allBlocked = new StringBuilder("count(7) = 0\n");
        for (int i = 0; i < 8; i++) {
            allBlocked.append("""
                open(%1$d, 5, 5) = %2$d; insert(%1$d) = 3; pin(4) = 2; pin(4) = 1; count(7) = %1$d; pin(4) = 0
                count(7) = %2$d
                """.formatted(i, i + 1));
        }
        Run.of("19: accounts that are blocked (7), up to all", allBlocked.toString());
    }

    private static void countRefuses() {
        for (int wrong : new int[] {Integer.MIN_VALUE, -1, 8, Integer.MAX_VALUE}) {
            Run.of("19: IllegalArgumentException: another number",
                    "count(%d) throws IllegalArgumentException; count(0) = 0; count(7) = 0".formatted(wrong));
        }
    }
}
