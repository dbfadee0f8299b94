/** The boundary cases that promises 11 (power) and 12 (boot) name. */
final class PowerEdgesTest {
    /** Account 1 of 1000 in a verified session, and fifty notes of 10. */
    private static final String TENS = "open(1, 11, 1000) = 1; load(0, 10, 50) = 0; insert(1) = 3; pin(11) = 3\n";
    private static final String AGAIN = "insert(1) = 3; pin(11) = 3\n";

    public static void main(String[] args) {
        places();
        power();
        powerWaits();
        powerRefuses();
        bootOfSent();
        bootOfApproved();
        boot();
        bootRefuses();
        Probe.end();
    }

    private static void places() {
        Run.of("11: 1 before (b): nothing was sent, and no fate taken", TENS, """
            power(1) = 1; line(1) = 1; jam(1) = 1; withdraw(30) = POWER; trace(1, 0) = 1; balance(1) = 1000
            count(1) = 0; count(2) = 1; count(6) = 0; notes(0) = 50; difference() = 0
            """);
        Run.of("11: 2 before (c): the host approved, and the record is SENT", TENS, """
            power(2) = 1; line(3) = 1; jam(1) = 1; withdraw(30) = POWER; trace(1, 0) = 1; balance(1) = 970
            count(1) = 0; count(2) = 0; count(6) = 0; notes(0) = 50; difference() = 30
            """);
        Run.of("11: 3 before (d): the record is APPROVED, and nothing paid", TENS, """
            power(3) = 1; line(3) = 1; jam(1) = 1; withdraw(30) = POWER; trace(1, 0) = 2; balance(1) = 970
            count(1) = 0; count(2) = 0; count(6) = 0; notes(0) = 50; difference() = 30
            """);
        Run.of("11: 4 before (e): it is paid, and the record is APPROVED", TENS, """
            power(4) = 1; line(3) = 1; jam(1) = 1; withdraw(30) = POWER; trace(1, 0) = 2; trace(1, 3) = 0
            balance(1) = 970; count(1) = 0; count(2) = 0; count(6) = 10; notes(0) = 49; difference() = 20
            """);
        for (int place = 1; place <= 4; place++) {
            Run.of("11: the machine is DOWN, and its session is over", TENS, """
                power(%d) = 1; count(3) = 1; withdraw(30) = POWER; count(3) = 0; count(4) = -1; count(5) = 0
                insert(1) throws IllegalStateException; eject() throws IllegalStateException
                settle() throws IllegalStateException; pin(11) throws IllegalStateException
                withdraw(30) throws IllegalStateException
                """.formatted(place));
            Run.of("11: it happens in the next withdrawal, and in no other", TENS, """
                power(%d) = 1; withdraw(30) = POWER
                """.formatted(place), place == 4 ? "boot() = 0" : "boot() = 1", AGAIN, """
                withdraw(30) = 30; withdraw(30) = 30; count(3) = 1
                """);
        }
    }

    private static void power() {
        Run.of("11: in place of one set: 1", TENS, """
            power(1) = 1; power(4) = 1; power(2) = 1; power(3) = 1; withdraw(30) = POWER; trace(1, 0) = 2; notes(0) = 50
            """);
        for (int place = 1; place <= 4; place++) {
            Run.of("11: or takes it away (0): 0", TENS, """
                power(0) = 0; power(%d) = 1; power(0) = 0; power(0) = 0; withdraw(30) = 30; count(3) = 1
                """.formatted(place));
        }
        Run.of("11: set when DOWN and without a session", TENS, """
            power(1) = 1; withdraw(30) = POWER; power(4) = 1; boot() = 1; count(3) = 1
            """, AGAIN, "withdraw(30) = POWER; trace(2, 0) = 2; notes(0) = 47");
    }

    private static void powerWaits() {
        for (int place = 2; place <= 4; place++) {
            Run.of("11: a withdrawal without an answer does not come there", TENS, """
                power(%d) = 1; line(1) = 1; withdraw(30) = NO_ANSWER; line(2) = 1; withdraw(30) = NO_ANSWER
                count(3) = 1; trace(1, 0) = 4; trace(2, 0) = 4; count(1) = 2; withdraw(30) = POWER
                """.formatted(place));
            Run.of("11: a withdrawal that is declined does not come there", """
                open(1, 11, 99) = 1; load(0, 10, 50) = 0; insert(1) = 3; pin(11) = 3
                power(%d) = 1; withdraw(100) = DECLINED; count(3) = 1; trace(1, 0) = 4; count(1) = 0
                withdraw(90) = POWER
                """.formatted(place));
        }
        for (int place = 1; place <= 4; place++) {
            Run.of("11: a withdrawal that is refused does not come there", TENS, """
                power(%d) = 1; withdraw(0) throws IllegalArgumentException
                withdraw(15) throws UnsupportedOperationException; count(3) = 1; eject() = 1
                withdraw(10) throws IllegalStateException; count(3) = 1; settle() = 0
                """.formatted(place), AGAIN, "withdraw(30) = POWER; count(3) = 0");
        }
        Run.of("11: 1 happens before a request that would be lost or declined", """
            open(1, 11, 9) = 1; load(0, 10, 50) = 0; insert(1) = 3; pin(11) = 3
            power(1) = 1; line(1) = 1; withdraw(10) = POWER; boot() = 1
            """, AGAIN, "withdraw(10) = NO_ANSWER; power(1) = 1; withdraw(10) = POWER; trace(3, 0) = 1");
    }

    private static void powerRefuses() {
        for (int wrong : new int[] {Integer.MIN_VALUE, -1, 5, Integer.MAX_VALUE}) {
            Run.of("11: IllegalArgumentException: another number, and the one set stays", TENS, """
                power(%1$d) throws IllegalArgumentException; withdraw(30) = 30
                power(3) = 1; power(%1$d) throws IllegalArgumentException; withdraw(30) = POWER; trace(2, 0) = 2
                """.formatted(wrong));
        }
    }

    private static void bootOfSent() {
        for (int place = 1; place <= 2; place++) {
            Run.of("12: if it is SENT, it becomes VOID, and a reversal of its amount is pending", TENS, """
                power(%d) = 1; withdraw(30) = POWER; trace(1, 0) = 1; boot() = 1
                trace(1, 0) = 4; trace(1, 3) = 0; count(1) = 1; reversal(0) = 30; notes(0) = 50
                settle() = 1; balance(1) = 1000; difference() = 0
                """.formatted(place));
            Run.of("12: if it is SENT, what the dispenser kept does not matter", TENS, """
                withdraw(30) = 30; power(%d) = 1; withdraw(30) = POWER; boot() = 1
                trace(2, 0) = 4; trace(2, 3) = 0; reversal(0) = 30; trace(1, 0) = 3; trace(1, 3) = 30
                settle() = 1; balance(1) = 970; difference() = 0
                """.formatted(place));
        }
    }

    private static void bootOfApproved() {
        Run.of("12: if it is APPROVED, it becomes DONE, with what the dispenser kept: all", TENS, """
            power(4) = 1; withdraw(30) = POWER; trace(1, 0) = 2; boot() = 0; trace(1, 0) = 3; trace(1, 3) = 30
            count(1) = 0; notes(0) = 47; balance(1) = 970; count(6) = 30; difference() = 0
            """);
        Run.of("12: if that is less than the amount a reversal of the rest is pending", TENS, """
            power(4) = 1; jam(2) = 1; withdraw(30) = POWER; boot() = 1; trace(1, 0) = 3; trace(1, 3) = 20
            reversal(0) = 10; notes(0) = 48; settle() = 1; balance(1) = 980; difference() = 0
            """);
        Run.of("12: if it kept nothing for its trace", TENS, """
            power(4) = 1; jam(0) = 1; withdraw(30) = POWER; boot() = 1; trace(1, 0) = 3; trace(1, 3) = 0
            reversal(0) = 30; notes(0) = 50; settle() = 1; balance(1) = 1000
            """);
        Run.of("12: if that is for its trace, else with 0", TENS, """
            withdraw(30) = 30; power(3) = 1; withdraw(30) = POWER; boot() = 1; trace(2, 0) = 3; trace(2, 3) = 0
            reversal(0) = 30; trace(1, 3) = 30; notes(0) = 47; count(6) = 30; settle() = 1; balance(1) = 970
            """);
        Run.of("12: with 0 where it never paid", TENS, """
            power(3) = 1; withdraw(30) = POWER; boot() = 1; trace(1, 0) = 3; trace(1, 3) = 0; reversal(0) = 30
            """);
    }

    private static void boot() {
        Run.of("12: which is ON then, without a session", TENS, """
            power(1) = 1; withdraw(30) = POWER; count(3) = 0; boot() = 1; count(3) = 1; count(4) = -1; count(5) = 0
            insert(1) = 3; count(5) = 0; withdraw(30) throws IllegalStateException; pin(11) = 3; withdraw(30) = 30
            """);
        Run.of("12: looks at the last record alone, and answers how many reversals are pending", TENS, """
            line(1) = 1; withdraw(20) = NO_ANSWER; jam(0) = 1; withdraw(30) = 0; power(1) = 1; withdraw(40) = POWER
            boot() = 3; reversal(0) = 20; reversal(1) = 30; reversal(2) = 40
            """, AGAIN, """
            power(4) = 1; withdraw(50) = POWER; boot() = 3; trace(1, 0) = 4; trace(2, 0) = 3; trace(2, 3) = 0
            trace(3, 0) = 4; trace(4, 0) = 3; trace(4, 3) = 50; count(1) = 3
            """);
        Run.of("12: as many as there can be", TENS, "line(1) = 1; withdraw(10) = NO_ANSWER\n".repeat(39), """
            power(2) = 1; withdraw(10) = POWER; boot() = 40; reversal(39) = 10; settle() = 40; balance(1) = 1000
            """, AGAIN, "withdraw(10) throws IndexOutOfBoundsException");
        Run.of("12: leaves fates, jam and failure as they are", TENS, """
            power(1) = 1; withdraw(20) = POWER; power(3) = 1; jam(1) = 1; line(0) = 1; line(2) = 2; boot() = 1
            count(2) = 2
            """, AGAIN, """
            withdraw(20) = POWER; trace(2, 0) = 2; boot() = 2; count(2) = 1; settle() = 0; count(2) = 0
            """, AGAIN, "withdraw(20) = 10");
        Run.of("12: leaves the tries of the accounts as they are", TENS, """
            open(2, 22, 10) = 2; eject() = 1; insert(2) = 3; pin(0) = 2; eject() = 2
            """, AGAIN, "power(1) = 1; withdraw(20) = POWER; boot() = 1; insert(2) = 2; pin(0) = 1");
    }

    private static void bootRefuses() {
        Run.of("12: IllegalStateException: it is ON", """
            boot() throws IllegalStateException
            """, TENS, """
            boot() throws IllegalStateException; count(4) = 1; count(5) = 1; withdraw(10) = 10
            boot() throws IllegalStateException; line(1) = 1; withdraw(10) = NO_ANSWER
            boot() throws IllegalStateException; count(1) = 1; power(1) = 1; boot() throws IllegalStateException
            withdraw(10) = POWER; boot() = 2; boot() throws IllegalStateException; count(1) = 2
            """);
    }
}
