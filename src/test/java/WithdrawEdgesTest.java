/** The boundary cases that promises 7 (withdraw) and 15 (trace) name. */
final class WithdrawEdgesTest {
    /** Account 1 of 1000 in a verified session, and fifty notes of 10. */
    private static final String TENS = "open(1, 11, 1000) = 1; load(0, 10, 50) = 0; insert(1) = 3; pin(11) = 3\n";

    public static void main(String[] args) {
        withdraw();
        withdrawGoesOn();
        withdrawRefuses();
        withdrawRefusesAmounts();
        withdrawRefusesTraces();
        withdrawTestsInOrder();
        trace();
        traceRefuses();
        Probe.end();
    }

    private static void withdraw() {
        Run.of("7: the least amount and the greatest", """
            open(0, 0, 5001) = 1; load(0, 500, 10) = 0; load(3, 1, 1) = 0; insert(0) = 3; pin(0) = 3
            withdraw(1) = 1; withdraw(5000) = 5000; balance(0) = 0; notes(0) = 0; notes(3) = 0; count(6) = 5001
            """);
        Run.of("7: the last note", TENS, "withdraw(490) = 490; withdraw(10) = 10; notes(0) = 0; balance(1) = 500");
        Run.of("7: every note of every cassette", """
            open(0, 0, 5000) = 1; load(0, 25, 50) = 0; load(1, 25, 50) = 0; load(2, 25, 50) = 0; load(3, 25, 50) = 0
            insert(0) = 3; pin(0) = 3; withdraw(5000) = 5000
            notes(0) = 0; notes(1) = 0; notes(2) = 0; notes(3) = 0; balance(0) = 0
            """);
        Run.of("7: what was presented (0 or more)", TENS, """
            jam(0) = 1; withdraw(30) = 0; jam(1) = 1; withdraw(30) = 10; jam(3) = 1; withdraw(30) = 30
            """);
        Run.of("7: DECLINED", """
            open(1, 11, 29) = 1; load(0, 10, 50) = 0; insert(1) = 3; pin(11) = 3
            withdraw(30) = -1; balance(1) = 29; notes(0) = 50
            """);
        Run.of("7: NO_ANSWER", TENS, """
            line(1) = 1; withdraw(30) = -2; balance(1) = 1000; notes(0) = 50
            line(2) = 1; withdraw(30) = -2; balance(1) = 970; notes(0) = 50
            """);
        Run.of("7: POWER", TENS, "power(1) = 1; withdraw(30) = -3; balance(1) = 1000; notes(0) = 50");
    }

    private static void withdrawGoesOn() {
        Run.of("7: the session goes on", """
            open(1, 11, 100) = 1; load(0, 10, 50) = 0; insert(1) = 3; pin(11) = 3
            withdraw(10) = 10; count(4) = 1; count(5) = 1; withdraw(110) = DECLINED; count(4) = 1; count(5) = 1
            line(1) = 1; withdraw(10) = NO_ANSWER; count(4) = 1; count(5) = 1
            jam(0) = 1; withdraw(10) = 0; count(4) = 1; count(5) = 1; withdraw(80) = 80; eject() = 1
            """);
        for (int place = 1; place <= 4; place++) {
            Run.of("7: but for POWER", TENS, """
                power(%d) = 1; withdraw(10) = POWER; count(3) = 0; count(4) = -1; count(5) = 0
                withdraw(10) throws IllegalStateException; eject() throws IllegalStateException; count(0) = 1
                """.formatted(place));
        }
    }

    private static void withdrawRefuses() {
        Run.of("7: IllegalStateException: no session", """
            load(0, 10, 50) = 0; withdraw(10) throws IllegalStateException; open(0, 0, 90) = 1
            withdraw(10) throws IllegalStateException; insert(0) = 3; pin(0) = 3; eject() = 0
            withdraw(10) throws IllegalStateException; count(0) = 0; balance(0) = 90; notes(0) = 50
            """);
        Run.of("7: IllegalStateException: or the card is not verified", """
            load(0, 10, 50) = 0; open(0, 0, 90) = 1; insert(0) = 3; withdraw(10) throws IllegalStateException
            pin(1) = 2; withdraw(10) throws IllegalStateException; pin(0) = 3; withdraw(10) = 10; eject() = 0
            insert(0) = 3; withdraw(10) throws IllegalStateException; count(0) = 1; balance(0) = 80
            """);
        Run.of("7: IllegalStateException: no session of a blocked account, nor behind booting", TENS, """
            power(1) = 1; withdraw(10) = POWER; boot() = 1; withdraw(10) throws IllegalStateException
            insert(1) = 3; pin(0) = 2; pin(0) = 1; pin(0) = 0; withdraw(10) throws IllegalStateException; count(0) = 1
            """);
        Run.of("7: UnsupportedOperationException: there is no mix", TENS, """
            withdraw(1) throws UnsupportedOperationException; withdraw(9) throws UnsupportedOperationException
            withdraw(11) throws UnsupportedOperationException; withdraw(510) throws UnsupportedOperationException
            withdraw(5000) throws UnsupportedOperationException; count(0) = 0; withdraw(500) = 500
            withdraw(10) throws UnsupportedOperationException; count(0) = 1; balance(1) = 500
            """);
        Run.of("7: no mix is found before the host is asked: neither fate, jam nor failure is used up", TENS, """
            line(1) = 1; jam(0) = 1; power(1) = 1; withdraw(15) throws UnsupportedOperationException; count(2) = 1
            count(3) = 1; power(0) = 0; withdraw(10) = NO_ANSWER; withdraw(10) = 0; withdraw(10) = 10
            """);
    }

    private static void withdrawRefusesAmounts() {
        for (int wrong : new int[] {Integer.MIN_VALUE, -10, -1, 0, 5001, 5500, Integer.MAX_VALUE}) {
            Run.of("7: IllegalArgumentException: the amount is not 1 .. 5000", """
                open(0, 0, 10000) = 1; load(0, 500, 50) = 0; load(1, 1, 50) = 0; insert(0) = 3; pin(0) = 3
                withdraw(%d) throws IllegalArgumentException; count(0) = 0; balance(0) = 10000; withdraw(5000) = 5000
                """.formatted(wrong));
        }
    }

    private static void withdrawRefusesTraces() {
        Run.of("7: IndexOutOfBoundsException: 40 traces were given", TENS, "withdraw(10) = 10\n".repeat(40), """
            withdraw(10) throws IndexOutOfBoundsException; count(0) = 40; balance(1) = 600; notes(0) = 10
            eject() = 1; insert(1) = 3; pin(11) = 3; withdraw(10) throws IndexOutOfBoundsException
            """);
        Run.of("7: 40 traces, whatever became of them", """
            open(1, 11, 9) = 1; load(0, 10, 50) = 0; insert(1) = 3; pin(11) = 3
            """, "withdraw(10) = DECLINED; line(1) = 1; withdraw(10) = NO_ANSWER\n".repeat(20), """
            line(2) = 1; jam(0) = 1; power(1) = 1; withdraw(10) throws IndexOutOfBoundsException
            count(2) = 1; count(3) = 1; settle() = 0; settle() = 20; withdraw(10) throws IndexOutOfBoundsException
            count(0) = 40; count(1) = 0
            """);
        Run.of("7: a refused withdrawal gives no trace", TENS, """
            withdraw(0) throws IllegalArgumentException; withdraw(15) throws UnsupportedOperationException
            """.repeat(50), "withdraw(10) = 10\n".repeat(40), "withdraw(10) throws IndexOutOfBoundsException");
    }

    private static void withdrawTestsInOrder() {
        Run.of("7: session and card are tested first", """
            withdraw(0) throws IllegalStateException; withdraw(5001) throws IllegalStateException
            withdraw(10) throws IllegalStateException; open(0, 0, 10) = 1; insert(0) = 3
            withdraw(0) throws IllegalStateException; withdraw(5001) throws IllegalStateException
            withdraw(10) throws IllegalStateException; pin(0) = 3
            withdraw(0) throws IllegalArgumentException; withdraw(10) throws UnsupportedOperationException
            """);
        Run.of("7: then the amount, then the mix, then the traces", TENS, "withdraw(10) = 10\n".repeat(40), """
            withdraw(0) throws IllegalArgumentException; withdraw(5001) throws IllegalArgumentException
            withdraw(15) throws UnsupportedOperationException; withdraw(110) throws UnsupportedOperationException
            withdraw(100) throws IndexOutOfBoundsException; eject() = 1
            withdraw(100) throws IllegalStateException; withdraw(110) throws IllegalStateException
            withdraw(0) throws IllegalStateException
            """);
    }

    private static void trace() {
        Run.of("15: state (0) SENT 1, and 0 presented as it is not DONE", TENS, """
            power(1) = 1; withdraw(20) = POWER; trace(1, 0) = 1; trace(1, 1) = 1; trace(1, 2) = 20; trace(1, 3) = 0
            """);
        Run.of("15: state (0) APPROVED 2, and 0 presented as it is not DONE", TENS, """
            power(4) = 1; withdraw(20) = POWER; trace(1, 0) = 2; trace(1, 1) = 1; trace(1, 2) = 20; trace(1, 3) = 0
            count(6) = 20; boot() = 0; trace(1, 0) = 3; trace(1, 3) = 20
            """);
        Run.of("15: state (0) DONE 3, with what was presented", TENS, """
            withdraw(20) = 20; trace(1, 0) = 3; trace(1, 1) = 1; trace(1, 2) = 20; trace(1, 3) = 20
            jam(1) = 1; withdraw(20) = 10; trace(2, 0) = 3; trace(2, 2) = 20; trace(2, 3) = 10
            jam(0) = 1; withdraw(20) = 0; trace(3, 0) = 3; trace(3, 2) = 20; trace(3, 3) = 0
            """);
        Run.of("15: state (0) VOID 4, and 0 presented as it is not DONE", TENS, """
            line(2) = 1; withdraw(20) = NO_ANSWER; trace(1, 0) = 4; trace(1, 1) = 1; trace(1, 2) = 20; trace(1, 3) = 0
            """);
        Run.of("15: a trace stays what it became", TENS, """
            jam(1) = 1; withdraw(20) = 10; line(1) = 1; withdraw(30) = NO_ANSWER; settle() = 2; eject() = 1
            open(0, 0, 90) = 2; insert(0) = 3; pin(0) = 3; withdraw(40) = 40; trace(3, 1) = 0
            trace(1, 0) = 3; trace(1, 1) = 1; trace(1, 2) = 20; trace(1, 3) = 10; trace(2, 0) = 4; trace(2, 1) = 1
            """);
    }

    private static void traceRefuses() {
        for (int wrong : new int[] {Integer.MIN_VALUE, -1, 0, 3, 39, 40, 41, Integer.MAX_VALUE}) {
            Run.of("15: NoSuchElementException: there is no such trace", TENS, """
                withdraw(10) = 10; withdraw(20) = 20; trace(%d, 0) throws NoSuchElementException; trace(2, 2) = 20
                """.formatted(wrong));
        }
        for (int wrong : new int[] {Integer.MIN_VALUE, -1, 4, Integer.MAX_VALUE}) {
            Run.of("15: IllegalArgumentException: another what", TENS, """
                withdraw(10) = 10; trace(1, %d) throws IllegalArgumentException; trace(1, 3) = 10
                """.formatted(wrong));
        }
        Run.of("15: the trace is tested before the what", """
            trace(1, 4) throws NoSuchElementException; trace(0, -1) throws NoSuchElementException
            trace(41, 4) throws NoSuchElementException
            """);
    }
}
