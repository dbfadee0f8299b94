/** The boundary cases that the section "Terms" names: what is there at first, host, line, dispenser and journal. */
final class TermsEdgesTest {
    /** Account 1 of 1000 in a verified session, and fifty notes of 10. */
    private static final String TENS = "open(1, 11, 1000) = 1; load(0, 10, 50) = 0; insert(1) = 3; pin(11) = 3\n";

    public static void main(String[] args) {
        atFirst();
        mixes();
        traces();
        fates();
        requests();
        reversals();
        dispenser();
        withdrawals();
        lastCall();
        Probe.end();
    }

    private static void atFirst() {
        for (int i = 0; i < 8; i++) {
            Run.of("Terms: ACCOUNTS 0 .. 7, each opened or not (at first)", """
                balance(%1$d) throws NoSuchElementException
                insert(%1$d) throws NoSuchElementException
                open(%1$d, 0, 7) = 1; balance(%1$d) = 7; insert(%1$d) = 3; count(4) = %1$d
                """.formatted(i));
        }
        for (int i = 0; i < 4; i++) {
            Run.of("Terms: CASSETTES 0 .. 3 (empty, of value 1, at first)", """
                notes(%1$d) = 0; mix(%1$d, 1) throws UnsupportedOperationException
                load(%1$d, 1, 1) = 0; notes(%1$d) = 1; mix(%1$d, 1) = 1
                """.formatted(i));
        }
        Run.of("Terms: THE MACHINE is ON (at first); in a SESSION or not; VERIFIED or not", """
            count(3) = 1; count(4) = -1; count(5) = 0
            boot() throws IllegalStateException; eject() throws IllegalStateException
            pin(0) throws IllegalStateException; withdraw(1) throws IllegalStateException
            """);
    }

    private static void mixes() {
        Run.of("Terms: at most as many as are there", """
            load(2, 20, 3) = 0; mix(2, 20) = 1; mix(2, 60) = 3; mix(2, 80) throws UnsupportedOperationException
            load(3, 20, 1) = 0; mix(2, 80) = 3; mix(3, 80) = 1; mix(2, 100) throws UnsupportedOperationException
            """);
        Run.of("Terms: of that amount in all", """
            load(0, 20, 3) = 0; load(1, 50, 1) = 0
            mix(0, 1) throws UnsupportedOperationException; mix(0, 19) throws UnsupportedOperationException
            mix(0, 30) throws UnsupportedOperationException; mix(0, 109) throws UnsupportedOperationException
            mix(0, 110) = 3; mix(1, 110) = 1; mix(0, 111) throws UnsupportedOperationException
            """);
        Run.of("Terms: THE mix is the one of the fewest notes", """
            load(0, 1, 50) = 0; load(1, 25, 2) = 0; load(2, 20, 3) = 0
            mix(0, 60) = 0; mix(1, 60) = 0; mix(2, 60) = 3; mix(3, 60) = 0
            mix(0, 51) = 1; mix(1, 51) = 2; mix(2, 51) = 0; mix(0, 24) = 4; mix(1, 24) = 0; mix(2, 24) = 1
            """);
        Run.of("Terms: of several the one with the most of cassette 0", """
            load(0, 10, 9) = 0; load(1, 20, 9) = 0; load(2, 30, 9) = 0
            mix(0, 40) = 1; mix(1, 40) = 0; mix(2, 40) = 1
            load(0, 20, 9) = 90; load(1, 10, 9) = 180; mix(0, 40) = 2; mix(1, 40) = 0; mix(2, 40) = 0
            """);
        Run.of("Terms: then of 1", """
            load(0, 100, 1) = 0; load(1, 10, 9) = 0; load(2, 20, 9) = 0; load(3, 30, 9) = 0
            mix(0, 140) = 1; mix(1, 140) = 1; mix(2, 140) = 0; mix(3, 140) = 1
            load(1, 20, 9) = 90; load(2, 10, 9) = 180
            mix(0, 140) = 1; mix(1, 140) = 2; mix(2, 140) = 0; mix(3, 140) = 0
            """);
        Run.of("Terms: then of 2", """
            load(0, 100, 1) = 0; load(1, 50, 1) = 0; load(2, 10, 2) = 0; load(3, 10, 2) = 0
            mix(2, 160) = 1; mix(3, 160) = 0; mix(2, 180) = 2; mix(3, 180) = 1
            mix(2, 190) = 2; mix(3, 190) = 2; mix(2, 200) throws UnsupportedOperationException
            """);
    }

    private static void traces() {
        Run.of("Terms: TRACES are numbered 1, 2, .. as withdrawals begin", TENS, """
            trace(1, 0) throws NoSuchElementException
            withdraw(10) = 10; withdraw(15) throws UnsupportedOperationException
            withdraw(0) throws IllegalArgumentException; line(1) = 1; withdraw(20) = NO_ANSWER
            power(1) = 1; withdraw(30) = POWER; count(0) = 3
            trace(1, 2) = 10; trace(2, 2) = 20; trace(3, 2) = 30; trace(4, 2) throws NoSuchElementException
            """);
        Run.of("Terms: there are at most 40", TENS, "withdraw(10) = 10\n".repeat(39), """
            count(0) = 39; trace(40, 0) throws NoSuchElementException
            withdraw(10) = 10; count(0) = 40; trace(40, 0) = 3; trace(40, 2) = 10
            withdraw(10) throws IndexOutOfBoundsException
            count(0) = 40; trace(41, 0) throws NoSuchElementException; notes(0) = 10; balance(1) = 600
            """);
        Run.of("Terms: PENDING are REVERSALS, in the order in which they came", TENS, """
            line(2) = 1; withdraw(30) = NO_ANSWER; jam(1) = 1; withdraw(20) = 10
            power(1) = 1; withdraw(50) = POWER; reversal(2) throws NoSuchElementException; boot() = 3
            reversal(0) = 30; reversal(1) = 10; reversal(2) = 50; reversal(3) throws NoSuchElementException
            line(0) = 1; line(1) = 2; settle() = 1; insert(1) = 3; pin(11) = 3; line(1) = 1
            withdraw(40) = NO_ANSWER; reversal(0) = 10; reversal(1) = 50; reversal(2) = 40
            """);
    }

    private static void fates() {
        Run.of("Terms: FATES to come, at most 8; each exchange takes the first one", TENS, """
            line(1) = 1; line(0) = 2; line(2) = 3; line(3) = 4; line(0) = 5; line(1) = 6; line(2) = 7; line(0) = 8
            line(1) throws IllegalStateException
            withdraw(10) = NO_ANSWER; withdraw(10) = 10; withdraw(10) = NO_ANSWER; count(2) = 5
            line(2) = 6; line(0) = 7; line(1) = 8; line(1) throws IllegalStateException
            withdraw(10) = 10; withdraw(10) = 10; withdraw(10) = NO_ANSWER; withdraw(10) = NO_ANSWER
            withdraw(10) = 10; withdraw(10) = NO_ANSWER; withdraw(10) = 10; withdraw(10) = NO_ANSWER
            count(2) = 0; withdraw(10) = 10; balance(1) = 910; count(6) = 60; difference() = 30
            """);
        Run.of("Terms: or 0 if there is none", TENS, """
            count(2) = 0; withdraw(10) = 10; balance(1) = 990; count(2) = 0; jam(0) = 1; withdraw(10) = 0
            settle() = 1; balance(1) = 990; count(2) = 0; line(1) = 1; withdraw(10) = NO_ANSWER; withdraw(10) = 10
            """);
        Run.of("Terms: 0 all goes well", TENS, """
            line(0) = 1; withdraw(10) = 10; balance(1) = 990; jam(0) = 1; withdraw(10) = 0
            line(0) = 1; settle() = 1; balance(1) = 990; count(1) = 0
            """);
        Run.of("Terms: 1 what the machine sends is lost", TENS, """
            line(1) = 1; withdraw(10) = NO_ANSWER; balance(1) = 1000; jam(0) = 1; withdraw(20) = 0; balance(1) = 980
            line(0) = 1; line(1) = 2; settle() = 1; balance(1) = 980; reversal(0) = 20
            line(1) = 1; settle() = 0; balance(1) = 980; reversal(0) = 20; settle() = 1; balance(1) = 1000
            """);
        Run.of("Terms: 2 the host's answer is lost", TENS, """
            line(2) = 1; withdraw(10) = NO_ANSWER; balance(1) = 990
            line(2) = 1; settle() = 0; balance(1) = 1000; reversal(0) = 10; settle() = 1; balance(1) = 1000
            """);
        Run.of("Terms: 3 what the machine sends arrives twice, and the first answer comes", TENS, """
            line(3) = 1; withdraw(500) = 500; balance(1) = 500; load(1, 5, 50) throws IllegalStateException
            eject() = 1; load(0, 10, 50) = 0; insert(1) = 3; pin(11) = 3
            line(3) = 1; withdraw(500) = 500; balance(1) = 0; trace(2, 0) = 3; count(1) = 0; difference() = 0
            """);
    }

    private static void requests() {
        for (int balance : new int[] {0, 1, 49}) {
            Run.of("Terms: its balance is below the amount: declined", """
                open(2, 0, %1$d) = 1; load(0, 50, 3) = 0; insert(2) = 3; pin(0) = 3
                withdraw(50) = DECLINED; balance(2) = %1$d; notes(0) = 3; trace(1, 0) = 4; count(1) = 0
                """.formatted(balance));
        }
        for (int balance : new int[] {50, 51, 1000000}) {
            Run.of("Terms: else approved, and the balance is that less", """
                open(2, 0, %d) = 1; load(0, 50, 3) = 0; insert(2) = 3; pin(0) = 3
                withdraw(50) = 50; balance(2) = %d; notes(0) = 2; trace(1, 0) = 3; count(1) = 0
                """.formatted(balance, balance - 50));
        }
        Run.of("Terms: a request for a trace that it has seen, approved: the same answer, and nothing happens", """
            open(2, 0, 150) = 1; load(0, 50, 3) = 0; insert(2) = 3; pin(0) = 3
            line(3) = 1; withdraw(50) = 50; balance(2) = 100; line(3) = 1; withdraw(100) = 100; balance(2) = 0
            """);
        Run.of("Terms: a request for a trace that it has seen, declined: the same answer, and nothing happens", """
            open(2, 0, 49) = 1; load(0, 50, 3) = 0; insert(2) = 3; pin(0) = 3
            line(3) = 1; withdraw(50) = DECLINED; balance(2) = 49; count(1) = 0; trace(1, 0) = 4
            """);
    }

    private static void reversals() {
        Run.of("Terms: if a reversal for this trace came before, nothing happens", TENS, """
            line(2) = 1; withdraw(300) = NO_ANSWER; balance(1) = 700
            line(2) = 1; settle() = 0; balance(1) = 1000; line(2) = 1; settle() = 0; balance(1) = 1000
            line(3) = 1; settle() = 1; balance(1) = 1000; count(1) = 0; difference() = 0
            """);
        Run.of("Terms: a reversal that arrives twice counts once", TENS, """
            jam(2) = 1; withdraw(300) = 20; balance(1) = 700; line(3) = 1; settle() = 1; balance(1) = 980
            difference() = 0
            """);
        Run.of("Terms: or the request was not approved, as it was never seen: nothing happens", TENS, """
            line(1) = 1; withdraw(300) = NO_ANSWER; reversal(0) = 300; settle() = 1; balance(1) = 1000; count(1) = 0
            power(1) = 1; withdraw(300) = POWER; boot() = 1; reversal(0) = 300; line(3) = 1; settle() = 1
            balance(1) = 1000; difference() = 0
            """);
        Run.of("Terms: or the request was not approved, as it was declined: nothing happens", """
            open(1, 11, 299) = 1; load(0, 10, 50) = 0; insert(1) = 3; pin(11) = 3
            line(2) = 1; withdraw(300) = NO_ANSWER; balance(1) = 299; trace(1, 0) = 4; reversal(0) = 300
            settle() = 1; balance(1) = 299; count(1) = 0
            """);
        Run.of("Terms: else the account's balance grows by the amount, of the account of the trace", TENS, """
            line(2) = 1; withdraw(300) = NO_ANSWER; eject() = 1; open(0, 0, 500) = 2; insert(0) = 3; pin(0) = 3
            jam(1) = 1; withdraw(40) = 10; line(2) = 1; withdraw(70) = NO_ANSWER; balance(0) = 390
            settle() = 3; balance(0) = 490; balance(1) = 1000; difference() = 0
            """);
        Run.of("Terms: the account's balance grows, be it blocked meanwhile", TENS, """
            line(2) = 1; withdraw(300) = NO_ANSWER; eject() = 1; insert(1) = 3
            pin(1) = 2; pin(1) = 1; pin(1) = 0; count(7) = 1; settle() = 1; balance(1) = 1000; count(7) = 1
            """);
    }

    private static void dispenser() {
        Run.of("Terms: THE DISPENSER keeps the trace for which it paid last (0 at first)", TENS, """
            power(3) = 1; withdraw(30) = POWER; boot() = 1; trace(1, 0) = 3; trace(1, 3) = 0; reversal(0) = 30
            """);
        Run.of("Terms: and the value that it presented for that, whatever happens", TENS, """
            power(4) = 1; jam(2) = 1; withdraw(50) = POWER; load(0, 500, 50) = 480; load(1, 7, 7) = 0; jam(1) = 1
            open(3, 3, 3) = 2; boot() = 1; trace(1, 0) = 3; trace(1, 3) = 20; reversal(0) = 30
            """);
        Run.of("Terms: the last trace's value alone", TENS, """
            withdraw(50) = 50; jam(0) = 1; power(4) = 1; withdraw(60) = POWER
            boot() = 1; trace(2, 0) = 3; trace(2, 3) = 0; reversal(0) = 60; trace(1, 3) = 50
            """);
    }

    private static void withdrawals() {
        Run.of("Terms: (b) without an answer: VOID, and a reversal of the amount is pending", TENS, """
            line(1) = 1; withdraw(30) = NO_ANSWER; trace(1, 0) = 4; trace(1, 3) = 0; count(1) = 1; reversal(0) = 30
            line(2) = 1; withdraw(40) = NO_ANSWER; trace(2, 0) = 4; trace(2, 3) = 0; count(1) = 2; reversal(1) = 40
            notes(0) = 50; count(6) = 0
            """);
        Run.of("Terms: (b) declined: VOID, and no reversal", """
            open(1, 11, 9) = 1; load(0, 10, 50) = 0; insert(1) = 3; pin(11) = 3
            withdraw(10) = DECLINED; trace(1, 0) = 4; trace(1, 1) = 1; trace(1, 2) = 10; trace(1, 3) = 0
            count(1) = 0; notes(0) = 50; count(6) = 0; settle() = 0
            """);
        Run.of("Terms: (d) of the cassettes with greater values first", """
            open(1, 11, 1000) = 1; load(0, 1, 1) = 0; load(1, 5, 1) = 0; load(2, 100, 1) = 0; load(3, 20, 1) = 0
            insert(1) = 3; pin(11) = 3
            jam(1) = 1; withdraw(126) = 100; notes(2) = 0; notes(3) = 1
            jam(1) = 1; withdraw(26) = 20; notes(3) = 0; notes(1) = 1
            jam(1) = 1; withdraw(6) = 5; notes(1) = 0; notes(0) = 1
            """);
        Run.of("Terms: (d) of the same value the lesser number first", """
            open(1, 11, 1000) = 1; load(0, 10, 1) = 0; load(1, 20, 1) = 0; load(2, 20, 1) = 0; load(3, 20, 1) = 0
            insert(1) = 3; pin(11) = 3
            jam(1) = 1; withdraw(70) = 20; notes(0) = 1; notes(1) = 0; notes(2) = 1; notes(3) = 1
            jam(1) = 1; withdraw(50) = 20; notes(0) = 1; notes(2) = 0; notes(3) = 1
            jam(1) = 1; withdraw(30) = 20; notes(0) = 1; notes(3) = 0
            """);
        Run.of("Terms: (e) if it is less than the amount, a reversal of the rest is pending", """
            open(1, 11, 1000) = 1; load(0, 1, 50) = 0; insert(1) = 3; pin(11) = 3
            jam(49) = 1; withdraw(50) = 49; trace(1, 0) = 3; trace(1, 3) = 49; count(1) = 1; reversal(0) = 1
            """);
        Run.of("Terms: (e) if it is not less, none is", """
            open(1, 11, 1000) = 1; load(0, 1, 50) = 0; insert(1) = 3; pin(11) = 3
            jam(50) = 1; withdraw(50) = 50; trace(1, 0) = 3; trace(1, 3) = 50; count(1) = 0
            """);
    }

    private static void lastCall() {
        Run.of("What it is: an object is used for at most 512 calls", TENS,
                "withdraw(15) throws UnsupportedOperationException\n".repeat(507), "withdraw(10) = 10");
    }
}
