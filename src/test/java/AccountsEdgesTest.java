/** The boundary cases that promises 1 (a new object), 2 (open), 4 (insert), 5 (pin), 6 (eject), 14 (balance) name. */
final class AccountsEdgesTest {
    public static void main(String[] args) {
        newObject();
        open();
        openRefuses();
        insert();
        insertRefuses();
        pin();
        pinRefuses();
        eject();
        balance();
        Probe.end();
    }

    private static void newObject() {
        Run.of("1: an object in the state that the terms give", """
            count(0) = 0; count(1) = 0; count(2) = 0; count(3) = 1; count(4) = -1; count(5) = 0; count(6) = 0
            count(7) = 0; difference() = 0; notes(0) = 0; notes(1) = 0; notes(2) = 0; notes(3) = 0
            settle() = 0; trace(1, 0) throws NoSuchElementException; reversal(0) throws NoSuchElementException
            mix(0, 1) throws UnsupportedOperationException; jam(-1) = 0; power(0) = 0; line(0) = 1
            """);
        Run.of("1: no jam and no power failure is set at first", """
            open(0, 0, 100) = 1; load(0, 1, 50) = 0; insert(0) = 3; pin(0) = 3
            withdraw(50) = 50; count(3) = 1; count(1) = 0
            """);
        Run.of("1: each object has a state of its own, first of two", "open(0, 0, 9) = 1; load(0, 9, 9) = 0");
        Run.of("1: each object has a state of its own, second of two", "open(0, 1, 8) = 1; load(0, 1, 1) = 0");
    }

    private static void open() {
        Run.of("2: answers how many are open, up to all of 0 .. 7", """
            open(7, 1, 1) = 1; open(0, 1, 1) = 2; open(6, 1, 1) = 3; open(1, 1, 1) = 4
            open(5, 1, 1) = 5; open(2, 1, 1) = 6; open(4, 1, 1) = 7; open(3, 1, 1) = 8
            open(8, 1, 1) throws IllegalArgumentException; open(3, 1, 1) throws IllegalStateException
            """);
        Run.of("2: the least PIN and the least balance", """
            open(0, 0, 0) = 1; balance(0) = 0; insert(0) = 3; pin(9999) = 2; pin(0) = 3
            """);
        Run.of("2: the greatest PIN and the greatest balance", """
            open(7, 9999, 1000000) = 1; balance(7) = 1000000; insert(7) = 3; pin(0) = 2; pin(9999) = 3
            """);
        Run.of("2: the state of the machine is no ground to refuse", """
            open(0, 0, 10) = 1; load(0, 1, 9) = 0; insert(0) = 3; open(1, 0, 10) = 2; pin(0) = 3; open(2, 0, 10) = 3
            power(1) = 1; withdraw(1) = POWER; open(3, 0, 10) = 4; open(0, 0, 10) throws IllegalStateException
            """);
        Run.of("2: a blocked account counts as open", """
            open(0, 0, 10) = 1; insert(0) = 3; pin(1) = 2; pin(1) = 1; pin(1) = 0; count(7) = 1
            open(0, 0, 10) throws IllegalStateException; open(1, 0, 10) = 2; count(7) = 1
            """);
    }

    private static void openRefuses() {
        for (int wrong : new int[] {Integer.MIN_VALUE, -8, -1, 8, 9, Integer.MAX_VALUE}) {
            Run.of("2: IllegalArgumentException: a number not 0 .. 7",
                    "open(%d, 0, 0) throws IllegalArgumentException; open(0, 0, 0) = 1".formatted(wrong));
        }
        for (int wrong : new int[] {Integer.MIN_VALUE, -1, 10000, Integer.MAX_VALUE}) {
            Run.of("2: IllegalArgumentException: PIN not 0 .. 9999", """
                open(0, %d, 0) throws IllegalArgumentException; balance(0) throws NoSuchElementException
                open(0, 0, 0) = 1
                """.formatted(wrong));
        }
        for (int wrong : new int[] {Integer.MIN_VALUE, -1, 1000001, Integer.MAX_VALUE}) {
            Run.of("2: IllegalArgumentException: balance not 0 .. 1000000", """
                open(0, 0, %d) throws IllegalArgumentException; balance(0) throws NoSuchElementException
                open(0, 0, 0) = 1
                """.formatted(wrong));
        }
        Run.of("2: IllegalStateException: it is open, and stays as it was", """
            open(3, 30, 300) = 1; open(3, 30, 300) throws IllegalStateException
            open(3, 31, 301) throws IllegalStateException; balance(3) = 300; difference() = 0
            insert(3) = 3; pin(31) = 2; open(3, 31, 301) throws IllegalStateException; pin(30) = 3
            """);
        Run.of("2: the numbers are tested before whether it is open", """
            open(3, 30, 300) = 1; open(3, -1, 300) throws IllegalArgumentException
            open(3, 10000, 300) throws IllegalArgumentException; open(3, 30, -1) throws IllegalArgumentException
            open(3, 30, 1000001) throws IllegalArgumentException; open(3, 30, 300) throws IllegalStateException
            """);
    }

    private static void insert() {
        Run.of("4: begins a session, not verified", """
            open(0, 0, 9) = 1; load(0, 1, 9) = 0; insert(0) = 3; count(4) = 0; count(5) = 0
            withdraw(1) throws IllegalStateException; pin(0) = 3; count(5) = 1; eject() = 0
            insert(0) = 3; count(5) = 0; withdraw(1) throws IllegalStateException
            """);
        Run.of("4: the tries that it has: 3, less those that were wrong", """
            open(0, 0, 9) = 1; insert(0) = 3; eject() = 0; insert(0) = 3; pin(1) = 2; eject() = 0
            insert(0) = 2; eject() = 0; insert(0) = 2; pin(1) = 1; eject() = 0; insert(0) = 1; pin(1) = 0
            insert(0) throws UnsupportedOperationException
            """);
        Run.of("4: since a right one", """
            open(0, 0, 9) = 1; insert(0) = 3; pin(1) = 2; pin(2) = 1; pin(0) = 3; eject() = 0
            insert(0) = 3; pin(1) = 2; eject() = 0; insert(0) = 2
            """);
        Run.of("4: or since it was opened: each account has tries of its own", """
            open(0, 0, 9) = 1; insert(0) = 3; pin(1) = 2; pin(1) = 1; eject() = 0; open(1, 0, 9) = 2
            insert(1) = 3; pin(1) = 2; eject() = 1; insert(0) = 1; eject() = 0; insert(1) = 2; pin(0) = 3
            eject() = 1; insert(0) = 1
            """);
    }

    private static void insertRefuses() {
        Run.of("4: IllegalStateException: the machine is DOWN", """
            open(0, 0, 9) = 1; load(0, 1, 9) = 0; insert(0) = 3; pin(0) = 3; power(1) = 1; withdraw(1) = POWER
            insert(0) throws IllegalStateException; count(4) = -1; boot() = 1; insert(0) = 3
            """);
        Run.of("4: IllegalStateException: or in a session, verified or not", """
            open(0, 0, 9) = 1; open(1, 1, 9) = 2; insert(0) = 3
            insert(0) throws IllegalStateException; insert(1) throws IllegalStateException; count(4) = 0
            pin(0) = 3; insert(0) throws IllegalStateException; insert(1) throws IllegalStateException
            count(4) = 0; count(5) = 1; eject() = 0; insert(1) = 3
            """);
        for (int wrong : new int[] {Integer.MIN_VALUE, -1, 0, 2, 7, 8, Integer.MAX_VALUE}) {
            Run.of("4: NoSuchElementException: no such account is open", """
                open(1, 1, 9) = 1; insert(%d) throws NoSuchElementException; count(4) = -1; insert(1) = 3
                """.formatted(wrong));
        }
        Run.of("4: UnsupportedOperationException: the account is blocked", """
            open(0, 0, 9) = 1; open(1, 1, 9) = 2; insert(0) = 3; pin(1) = 2; pin(1) = 1; pin(1) = 0
            insert(0) throws UnsupportedOperationException; count(4) = -1; insert(1) = 3; pin(1) = 3; eject() = 1
            insert(0) throws UnsupportedOperationException
            """);
        Run.of("4: DOWN and session are tested before the account", """
            open(0, 0, 9) = 1; open(1, 1, 9) = 2; load(0, 1, 9) = 0; insert(0) = 3; pin(1) = 2; pin(1) = 1; pin(1) = 0
            insert(1) = 3; insert(0) throws IllegalStateException; insert(2) throws IllegalStateException
            insert(-1) throws IllegalStateException; insert(8) throws IllegalStateException
            pin(1) = 3; power(1) = 1; withdraw(1) = POWER
            insert(0) throws IllegalStateException; insert(2) throws IllegalStateException
            insert(-1) throws IllegalStateException; insert(8) throws IllegalStateException
            """);
    }

    private static void pin() {
        Run.of("5: a right one verifies the card: 3", """
            open(0, 1234, 9) = 1; insert(0) = 3; pin(1234) = 3; count(5) = 1; count(4) = 0
            """);
        Run.of("5: and gives all three tries again, at the last one too", """
            open(0, 1234, 9) = 1; insert(0) = 3; pin(1233) = 2; pin(1235) = 1; pin(1234) = 3; count(5) = 1
            eject() = 0; insert(0) = 3; pin(1233) = 2; pin(1235) = 1; count(7) = 0
            """);
        Run.of("5: a wrong one: how many tries are left", """
            open(0, 1234, 9) = 1; insert(0) = 3; pin(0) = 2; count(4) = 0; count(5) = 0; pin(0) = 1
            count(4) = 0; count(5) = 0; count(7) = 0; eject() = 0; insert(0) = 1
            """);
        Run.of("5: if none is, the account is blocked and the session over", """
            open(0, 1234, 9) = 1; open(1, 1, 9) = 2; insert(0) = 3; pin(0) = 2; pin(0) = 1; pin(0) = 0
            count(4) = -1; count(5) = 0; count(7) = 1; count(3) = 1; balance(0) = 9
            eject() throws IllegalStateException; load(0, 1, 1) = 0
            insert(0) throws UnsupportedOperationException; insert(1) = 3
            """);
        for (int wrong : new int[] {Integer.MIN_VALUE, -1234, -1, 1233, 1235, 10000, 11234, Integer.MAX_VALUE}) {
            Run.of("5: every other number is a wrong one", """
                open(0, 1234, 9) = 1; insert(0) = 3; pin(%1$d) = 2; pin(%1$d) = 1; pin(%1$d) = 0; count(7) = 1
                """.formatted(wrong));
        }
        Run.of("5: the PIN of another account is a wrong one", """
            open(0, 1, 9) = 1; open(1, 2, 9) = 2; insert(0) = 3; pin(2) = 2; pin(1) = 3
            """);
    }

    private static void pinRefuses() {
        Run.of("5: IllegalStateException: no session", """
            pin(0) throws IllegalStateException; open(0, 0, 9) = 1; pin(0) throws IllegalStateException
            insert(0) = 3; eject() = 0; pin(0) throws IllegalStateException; pin(1) throws IllegalStateException
            insert(0) = 3; pin(1) = 2; pin(1) = 1; pin(1) = 0; pin(0) throws IllegalStateException; count(7) = 1
            """);
        Run.of("5: IllegalStateException: no session when DOWN", """
            open(0, 0, 9) = 1; load(0, 1, 9) = 0; insert(0) = 3; pin(0) = 3; power(1) = 1; withdraw(1) = POWER
            pin(0) throws IllegalStateException; boot() = 1; pin(0) throws IllegalStateException; insert(0) = 3
            """);
        Run.of("5: IllegalStateException: or the card is verified, and no try is lost", """
            open(0, 0, 9) = 1; insert(0) = 3; pin(0) = 3; pin(0) throws IllegalStateException
            pin(1) throws IllegalStateException; pin(1) throws IllegalStateException
            pin(1) throws IllegalStateException; count(5) = 1; count(7) = 0; eject() = 0; insert(0) = 3
            """);
    }

    private static void eject() {
        for (int account : new int[] {0, 7}) {
            Run.of("6: ends the session: the account", """
                open(%1$d, 5, 9) = 1; insert(%1$d) = 3; eject() = %1$d; count(4) = -1; count(5) = 0
                insert(%1$d) = 3; pin(5) = 3; eject() = %1$d; count(4) = -1; count(5) = 0
                """.formatted(account));
        }
        Run.of("6: IllegalStateException: there is none", """
            eject() throws IllegalStateException; open(0, 0, 9) = 1; eject() throws IllegalStateException
            insert(0) = 3; eject() = 0; eject() throws IllegalStateException; insert(0) = 3
            """);
        Run.of("6: IllegalStateException: there is none of a blocked account", """
            open(0, 0, 9) = 1; insert(0) = 3; pin(1) = 2; pin(1) = 1; pin(1) = 0; eject() throws IllegalStateException
            """);
        Run.of("6: IllegalStateException: there is none when DOWN, nor behind booting", """
            open(0, 0, 9) = 1; load(0, 1, 9) = 0; insert(0) = 3; pin(0) = 3; power(1) = 1; withdraw(1) = POWER
            eject() throws IllegalStateException; boot() = 1; eject() throws IllegalStateException
            """);
    }

    private static void balance() {
        Run.of("14: the least and the greatest, and down to nothing", """
            open(0, 0, 0) = 1; balance(0) = 0; open(7, 0, 1000000) = 2; balance(7) = 1000000
            open(3, 0, 5000) = 3; load(0, 500, 10) = 0; insert(3) = 3; pin(0) = 3; withdraw(5000) = 5000
            balance(3) = 0; balance(7) = 1000000; balance(0) = 0
            """);
        Run.of("14: of a blocked account and when DOWN", """
            open(0, 0, 8) = 1; open(1, 1, 9) = 2; load(0, 1, 9) = 0; insert(0) = 3; pin(1) = 2; pin(1) = 1; pin(1) = 0
            balance(0) = 8; insert(1) = 3; pin(1) = 3; power(3) = 1; withdraw(1) = POWER; balance(1) = 8; balance(0) = 8
            """);
        for (int wrong : new int[] {Integer.MIN_VALUE, -1, 0, 2, 7, 8, Integer.MAX_VALUE}) {
            Run.of("14: NoSuchElementException: it is not open", """
                balance(1) throws NoSuchElementException; open(1, 1, 9) = 1
                balance(%d) throws NoSuchElementException; balance(1) = 9
                """.formatted(wrong));
        }
    }
}
