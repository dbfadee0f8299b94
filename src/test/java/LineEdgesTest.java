/** The boundary cases that promises 9 (line), 13 (settle) and 16 (reversal) name. */
final class LineEdgesTest {
    /** Account 1 of 1000 in a verified session, and fifty notes of 10. */
    private static final String TENS = "open(1, 11, 1000) = 1; load(0, 10, 50) = 0; insert(1) = 3; pin(11) = 3\n";
    /** Three reversals of what the host took, of 10, 20 and 30. */
    private static final String THREE_PENDING = TENS + """
            line(2) = 1; line(2) = 2; line(2) = 3
            withdraw(10) = NO_ANSWER; withdraw(20) = NO_ANSWER; withdraw(30) = NO_ANSWER; balance(1) = 940
            """;
    /** Forty reversals of 10 each. */
    private static final String FORTY_PENDING = TENS + "line(2) = 1; withdraw(10) = NO_ANSWER\n".repeat(40);

    public static void main(String[] args) {
        line();
        lineRefuses();
        settle();
        settleStops();
        settleRefuses();
        reversal();
        reversalRefuses();
        Probe.end();
    }

    private static void line() {
        for (int fate = 0; fate <= 3; fate++) {
            Run.of("9: answers how many are to come", """
                line(%1$d) = 1; count(2) = 1; line(%1$d) = 2; line(%1$d) = 3; count(2) = 3
                """.formatted(fate));
        }
        Run.of("9: a fate that is taken makes room", TENS, "line(0) = 1; line(0) = 2; line(0) = 3; line(0) = 4\n", """
            line(0) = 5; line(0) = 6; line(0) = 7; line(0) = 8; withdraw(10) = 10; count(2) = 7; line(1) = 8
            line(1) throws IllegalStateException
            """, "withdraw(10) = 10\n".repeat(7), "count(2) = 1; withdraw(10) = NO_ANSWER; count(2) = 0; line(0) = 1");
        Run.of("9: in any state of the machine", TENS, """
            power(1) = 1; withdraw(10) = POWER; line(1) = 1; boot() = 1; count(2) = 1; settle() = 0; settle() = 1
            """);
    }

    private static void lineRefuses() {
        for (int wrong : new int[] {Integer.MIN_VALUE, -1, 4, Integer.MAX_VALUE}) {
            Run.of("9: IllegalArgumentException: another number",
                    "line(%d) throws IllegalArgumentException; count(2) = 0; line(0) = 1".formatted(wrong));
        }
        Run.of("9: IllegalStateException: there are 8", TENS, """
            line(0) = 1; line(1) = 2; line(0) = 3; line(1) = 4; line(0) = 5; line(1) = 6; line(0) = 7; line(1) = 8
            line(0) throws IllegalStateException; line(3) throws IllegalStateException; count(2) = 8
            withdraw(10) = 10; withdraw(10) = NO_ANSWER; withdraw(10) = 10; withdraw(10) = NO_ANSWER
            withdraw(10) = 10; withdraw(10) = NO_ANSWER; withdraw(10) = 10; withdraw(10) = NO_ANSWER; count(2) = 0
            """);
        Run.of("9: the number is tested before the room", "line(0) = 1; line(0) = 2; line(0) = 3; line(0) = 4\n", """
            line(0) = 5; line(0) = 6; line(0) = 7; line(0) = 8; line(4) throws IllegalArgumentException
            line(-1) throws IllegalArgumentException; line(0) throws IllegalStateException
            """);
    }

    private static void settle() {
        Run.of("13: none is pending: no exchange, and no fate is taken", TENS, """
            settle() = 0; line(1) = 1; settle() = 0; count(2) = 1; withdraw(10) = NO_ANSWER
            """);
        Run.of("13: all are answered, each by an exchange of its own", THREE_PENDING, """
            line(0) = 1; line(3) = 2; line(0) = 3; line(1) = 4; settle() = 3; count(1) = 0; count(2) = 1
            balance(1) = 1000; settle() = 0; count(2) = 1
            """);
        Run.of("13: as many as there can be", FORTY_PENDING, """
            balance(1) = 600; count(1) = 40; settle() = 40; balance(1) = 1000; count(1) = 0; settle() = 0
            """);
        Run.of("13: the answer is that it came, whatever the host did", """
            open(1, 11, 9) = 1; load(0, 10, 50) = 0; insert(1) = 3; pin(11) = 3
            line(1) = 1; withdraw(10) = NO_ANSWER; line(2) = 1; withdraw(20) = NO_ANSWER; balance(1) = 9
            settle() = 2; count(1) = 0; balance(1) = 9
            """);
        Run.of("13: in a session, which goes on, and without one", THREE_PENDING, """
            line(0) = 1; line(1) = 2; settle() = 1; count(4) = 1; count(5) = 1; eject() = 1; settle() = 2
            balance(1) = 1000
            """);
    }

    private static void settleStops() {
        for (int fate = 1; fate <= 2; fate++) {
            Run.of("13: until one is not answered: the first", THREE_PENDING, """
                line(%1$d) = 1; line(%1$d) = 2; settle() = 0; count(2) = 1; count(1) = 3
                reversal(0) = 10; reversal(1) = 20; reversal(2) = 30
                """.formatted(fate), "balance(1) = " + (fate == 1 ? 940 : 950));
            Run.of("13: until one is not answered: the second", THREE_PENDING, """
                line(0) = 1; line(%1$d) = 2; line(%1$d) = 3; settle() = 1; count(2) = 1; count(1) = 2
                reversal(0) = 20; reversal(1) = 30; reversal(2) throws NoSuchElementException
                """.formatted(fate), "balance(1) = " + (fate == 1 ? 950 : 970));
            Run.of("13: until one is not answered: the last", THREE_PENDING, """
                line(3) = 1; line(0) = 2; line(%1$d) = 3; line(%1$d) = 4; settle() = 2; count(2) = 1; count(1) = 1
                reversal(0) = 30; reversal(1) throws NoSuchElementException
                """.formatted(fate), "balance(1) = " + (fate == 1 ? 970 : 1000), "settle() = 0; settle() = 1",
                    "balance(1) = 1000; difference() = 0");
        }
        Run.of("13: those that come later are behind those that are left", THREE_PENDING, """
            line(0) = 1; line(1) = 2; settle() = 1; jam(0) = 1; withdraw(40) = 0; count(1) = 3
            reversal(0) = 20; reversal(1) = 30; reversal(2) = 40; settle() = 3; balance(1) = 1000
            """);
    }

    private static void settleRefuses() {
        Run.of("13: IllegalStateException: the machine is DOWN", THREE_PENDING, """
            power(1) = 1; withdraw(40) = POWER; line(1) = 1; settle() throws IllegalStateException
            count(1) = 3; count(2) = 1; balance(1) = 940; boot() = 4; settle() = 0; settle() = 4; balance(1) = 1000
            """);
        Run.of("13: IllegalStateException: the machine is DOWN with none pending", TENS, """
            power(4) = 1; withdraw(40) = POWER; settle() throws IllegalStateException; boot() = 0; settle() = 0
            """);
    }

    private static void reversal() {
        Run.of("16: from 0 to the last", THREE_PENDING, """
            reversal(0) = 10; reversal(1) = 20; reversal(2) = 30; reversal(3) throws NoSuchElementException
            """);
        Run.of("16: as many as there can be", FORTY_PENDING, """
            reversal(0) = 10; reversal(39) = 10; reversal(40) throws NoSuchElementException
            """);
        Run.of("16: the least amount and the greatest", """
            open(0, 0, 5000) = 1; load(0, 500, 10) = 0; load(1, 1, 1) = 0; insert(0) = 3; pin(0) = 3
            line(1) = 1; withdraw(1) = NO_ANSWER; line(1) = 1; withdraw(5000) = NO_ANSWER
            reversal(0) = 1; reversal(1) = 5000
            """);
        Run.of("16: when DOWN too", THREE_PENDING, """
            power(1) = 1; withdraw(40) = POWER; reversal(2) = 30; reversal(3) throws NoSuchElementException
            boot() = 4; reversal(3) = 40
            """);
    }

    private static void reversalRefuses() {
        Run.of("16: NoSuchElementException: there is none at all", TENS, """
            reversal(0) throws NoSuchElementException; withdraw(10) = 10; reversal(0) throws NoSuchElementException
            reversal(-1) throws NoSuchElementException; line(1) = 1; withdraw(10) = NO_ANSWER; reversal(0) = 10
            settle() = 1; reversal(0) throws NoSuchElementException
            """);
        for (int wrong : new int[] {Integer.MIN_VALUE, -1, 3, 39, 40, Integer.MAX_VALUE}) {
            Run.of("16: NoSuchElementException: there is none at the index", THREE_PENDING,
                    "reversal(%d) throws NoSuchElementException; count(1) = 3".formatted(wrong));
        }
    }
}
