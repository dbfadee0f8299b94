/** The boundary cases that promises 3 (load), 8 (mix), 10 (jam) and 17 (notes) name. */
final class CassettesEdgesTest {
    /** Account 1 of 1000 in a verified session, and fifty notes of 10. */
    private static final String TENS = "open(1, 11, 1000) = 1; load(0, 10, 50) = 0; insert(1) = 3; pin(11) = 3\n";

    public static void main(String[] args) {
        load();
        loadRefuses();
        mix();
        mixRefuses();
        jam();
        jamIsOver();
        jamRefuses();
        notes();
        Probe.end();
    }

    private static void load() {
        for (int i = 0; i < 4; i++) {
            Run.of("3: the value of what it had in all: nothing, the most, the least", """
                load(%1$d, 500, 50) = 0; load(%1$d, 1, 1) = 25000; load(%1$d, 500, 0) = 1; load(%1$d, 1, 50) = 0
                load(%1$d, 1, 0) = 50; notes(%1$d) = 0
                """.formatted(i));
        }
        Run.of("3: in place of what it had, and of this cassette alone", """
            load(0, 5, 4) = 0; load(1, 6, 5) = 0; load(2, 7, 6) = 0; load(3, 8, 7) = 0; load(1, 9, 2) = 30
            notes(0) = 4; notes(1) = 2; notes(2) = 6; notes(3) = 7; mix(1, 9) = 1; mix(0, 5) = 1; mix(2, 7) = 1
            mix(3, 8) = 1; mix(1, 6) throws UnsupportedOperationException; load(1, 1, 1) = 18
            """);
        Run.of("3: what it had, less what was paid", TENS, """
            withdraw(490) = 490; eject() = 1; load(0, 10, 1) = 10; insert(1) = 3; pin(11) = 3; withdraw(10) = 10
            eject() = 1; load(0, 10, 50) = 0
            """);
        Run.of("3: when DOWN there is no session", TENS, """
            power(1) = 1; withdraw(10) = POWER; load(0, 20, 20) = 500; notes(0) = 20; boot() = 1; load(0, 1, 1) = 400
            """);
    }

    private static void loadRefuses() {
        for (int wrong : new int[] {Integer.MIN_VALUE, -1, 4, Integer.MAX_VALUE}) {
            Run.of("3: IllegalArgumentException: a cassette out of range", """
                load(%d, 1, 1) throws IllegalArgumentException; notes(0) = 0; notes(1) = 0; notes(2) = 0; notes(3) = 0
                """.formatted(wrong));
        }
        for (int wrong : new int[] {Integer.MIN_VALUE, -1, 0, 501, Integer.MAX_VALUE}) {
            Run.of("3: IllegalArgumentException: a value out of range", """
                load(0, 5, 5) = 0; load(0, %d, 1) throws IllegalArgumentException; notes(0) = 5; load(0, 1, 1) = 25
                """.formatted(wrong));
        }
        for (int wrong : new int[] {Integer.MIN_VALUE, -1, 51, Integer.MAX_VALUE}) {
            Run.of("3: IllegalArgumentException: notes out of range", """
                load(0, 5, 5) = 0; load(0, 1, %d) throws IllegalArgumentException; notes(0) = 5; load(0, 1, 1) = 25
                """.formatted(wrong));
        }
        Run.of("3: IllegalStateException: the machine is in a session, verified or not", """
            load(0, 5, 5) = 0; open(0, 0, 9) = 1; insert(0) = 3; load(0, 1, 1) throws IllegalStateException
            pin(0) = 3; load(0, 1, 1) throws IllegalStateException; load(3, 1, 1) throws IllegalStateException
            notes(0) = 5; notes(3) = 0; eject() = 0; load(0, 1, 1) = 25
            """);
        Run.of("3: the ranges are tested before the session", """
            open(0, 0, 9) = 1; insert(0) = 3; load(4, 1, 1) throws IllegalArgumentException
            load(0, 0, 1) throws IllegalArgumentException; load(0, 1, 51) throws IllegalArgumentException
            load(0, 1, 1) throws IllegalStateException
            """);
    }

    private static void mix() {
        Run.of("8: the least amount and the greatest", """
            load(0, 500, 10) = 0; load(3, 1, 1) = 0; mix(3, 1) = 1; mix(0, 1) = 0; mix(0, 5000) = 10; mix(3, 5000) = 0
            """);
        Run.of("8: all notes of all cassettes", """
            load(0, 25, 50) = 0; load(1, 25, 50) = 0; load(2, 25, 50) = 0; load(3, 25, 50) = 0
            mix(0, 5000) = 50; mix(1, 5000) = 50; mix(2, 5000) = 50; mix(3, 5000) = 50; mix(3, 4975) = 49
            """);
        Run.of("8: far more in each cassette than the amount", """
            load(0, 500, 50) = 0; load(1, 499, 50) = 0; load(2, 500, 50) = 0; load(3, 499, 50) = 0
            mix(0, 5000) = 10; mix(1, 5000) = 0; mix(2, 5000) = 0; mix(3, 5000) = 0
            mix(0, 4999) = 9; mix(1, 4999) = 1; mix(2, 4999) = 0; mix(3, 4999) = 0
            mix(0, 499) = 0; mix(1, 499) = 1; mix(0, 498) throws UnsupportedOperationException
            """);
        Run.of("8: all notes of value 1 and one more", """
            load(0, 1, 50) = 0; load(1, 1, 50) = 0; load(2, 1, 50) = 0; load(3, 1, 50) = 0; mix(3, 200) = 50
            mix(0, 201) throws UnsupportedOperationException; mix(3, 150) = 0; mix(3, 151) = 1
            """);
        Run.of("8: as the cassettes are, after a payment and after a load", TENS, """
            mix(0, 500) = 50; withdraw(10) = 10; mix(0, 500) throws UnsupportedOperationException; mix(0, 490) = 49
            eject() = 1; load(1, 490, 1) = 0; mix(0, 490) = 0; mix(1, 490) = 1; load(1, 1, 0) = 490; mix(0, 490) = 49
            """);
        Run.of("8: asking takes no notes, and any state of the machine will do", TENS, """
            mix(0, 500) = 50; mix(0, 500) = 50; notes(0) = 50; count(0) = 0; power(1) = 1; withdraw(10) = POWER
            mix(0, 500) = 50; notes(0) = 50; count(3) = 0
            """);
    }

    private static void mixRefuses() {
        for (int wrong : new int[] {Integer.MIN_VALUE, -1, 4, Integer.MAX_VALUE}) {
            Run.of("8: IllegalArgumentException: cassette not 0 .. 3", """
                load(0, 1, 50) = 0; mix(%d, 1) throws IllegalArgumentException
                """.formatted(wrong));
        }
        for (int wrong : new int[] {Integer.MIN_VALUE, -500, -1, 0, 5001, 5500, Integer.MAX_VALUE}) {
            Run.of("8: IllegalArgumentException: or the amount not 1 .. 5000", """
                load(0, 500, 50) = 0; load(1, 1, 1) = 0; mix(0, %d) throws IllegalArgumentException
                """.formatted(wrong));
        }
        Run.of("8: UnsupportedOperationException: there is no mix of empty cassettes", """
            mix(0, 1) throws UnsupportedOperationException; mix(3, 5000) throws UnsupportedOperationException
            load(0, 1, 0) = 0; mix(0, 1) throws UnsupportedOperationException
            """);
        Run.of("8: UnsupportedOperationException: there is no mix of notes that are too great", """
            load(0, 2, 50) = 0; load(1, 500, 50) = 0; mix(0, 1) throws UnsupportedOperationException; mix(0, 2) = 1
            mix(0, 499) throws UnsupportedOperationException; mix(1, 4999) throws UnsupportedOperationException
            """);
        Run.of("8: the numbers are tested before the mix", """
            mix(4, 1) throws IllegalArgumentException; mix(-1, 1) throws IllegalArgumentException
            mix(0, 0) throws IllegalArgumentException; mix(0, 5001) throws IllegalArgumentException
            mix(0, 1) throws UnsupportedOperationException
            """);
    }

    private static void jam() {
        for (int k = 0; k <= 5; k++) {
            int presented = Math.min(k, 4) * 10;
            Run.of("10: a jam of " + k + " stops behind so many notes if there are more", TENS, """
                jam(%1$d) = 1; withdraw(40) = %2$d; notes(0) = %3$d; count(6) = %2$d
                trace(1, 0) = 3; trace(1, 3) = %2$d
                """.formatted(k, presented, 50 - presented / 10), "count(1) = " + (k < 4 ? 1 : 0));
        }
        Run.of("10: the greatest jam", """
            open(0, 0, 200) = 1; load(0, 1, 50) = 0; load(1, 1, 50) = 0; load(2, 1, 50) = 0; load(3, 1, 50) = 0
            insert(0) = 3; pin(0) = 3; jam(100) = 1; withdraw(101) = 100; reversal(0) = 1
            notes(0) = 0; notes(1) = 0; notes(2) = 50; notes(3) = 50
            """);
        Run.of("10: in place of one set", TENS, """
            jam(0) = 1; jam(3) = 1; jam(2) = 1; withdraw(40) = 20; withdraw(40) = 40
            """);
        Run.of("10: or takes it away (-1): 0", TENS, """
            jam(-1) = 0; jam(0) = 1; jam(-1) = 0; jam(-1) = 0; withdraw(40) = 40; count(1) = 0
            """);
    }

    private static void jamIsOver() {
        Run.of("10: the jam is over with this payment, reached or not", TENS, """
            jam(4) = 1; withdraw(40) = 40; withdraw(50) = 50; jam(0) = 1; withdraw(10) = 0; withdraw(10) = 10
            """);
        Run.of("10: the jam is over with a payment behind which the power fails", TENS, """
            jam(1) = 1; power(4) = 1; withdraw(40) = POWER; boot() = 1; insert(1) = 3; pin(11) = 3
            trace(1, 3) = 10; withdraw(40) = 40
            """);
        Run.of("10: the jam waits where there is no payment", TENS, """
            jam(1) = 1; line(1) = 1; withdraw(40) = NO_ANSWER; line(2) = 1; withdraw(40) = NO_ANSWER
            withdraw(501) throws UnsupportedOperationException; withdraw(0) throws IllegalArgumentException
            power(1) = 1; withdraw(40) = POWER; boot() = 3; insert(1) = 3; pin(11) = 3
            power(2) = 1; withdraw(40) = POWER; boot() = 4; insert(1) = 3; pin(11) = 3
            power(3) = 1; withdraw(40) = POWER; boot() = 5; insert(1) = 3; pin(11) = 3; withdraw(40) = 10
            """);
        Run.of("10: the jam waits where a withdrawal is declined", """
            open(1, 11, 39) = 1; load(0, 10, 50) = 0; insert(1) = 3; pin(11) = 3
            jam(1) = 1; withdraw(40) = DECLINED; withdraw(30) = 10
            """);
        Run.of("10: the jam stays through a load and a change of session", TENS, """
            jam(1) = 1; eject() = 1; load(0, 20, 50) = 500; insert(1) = 3; pin(11) = 3; withdraw(40) = 20
            """);
    }

    private static void jamRefuses() {
        for (int wrong : new int[] {Integer.MIN_VALUE, -2, 101, Integer.MAX_VALUE}) {
            Run.of("10: IllegalArgumentException: another number, and the jam set stays", TENS, """
                jam(%1$d) throws IllegalArgumentException; jam(2) = 1; jam(%1$d) throws IllegalArgumentException
                withdraw(40) = 20; jam(%1$d) throws IllegalArgumentException; withdraw(40) = 40
                """.formatted(wrong));
        }
    }

    private static void notes() {
        for (int i = 0; i < 4; i++) {
            Run.of("17: none and the most, in each of 0 .. 3", """
                notes(%1$d) = 0; load(%1$d, 3, 50) = 0; notes(%1$d) = 50; load(%1$d, 3, 1) = 150; notes(%1$d) = 1
                load(%1$d, 3, 0) = 3; notes(%1$d) = 0
                """.formatted(i));
        }
        Run.of("17: down to none", TENS, "withdraw(490) = 490; notes(0) = 1; withdraw(10) = 10; notes(0) = 0");
        for (int wrong : new int[] {Integer.MIN_VALUE, -1, 4, Integer.MAX_VALUE}) {
            Run.of("17: IllegalArgumentException: another number",
                    "notes(%d) throws IllegalArgumentException; notes(0) = 0".formatted(wrong));
        }
    }
}
