import java.util.ArrayList;
import java.util.List;

/**
 * "A call that throws changes nothing": behind each refused call a machine answers a long row of calls, which brings
 * to light all that it holds, as a twin does that never got the refused call.
 */
final class RefusedCallsTest {
    /** Account 1 in a verified session, 2 with one wrong try, 3 blocked, one reversal pending, and all else set. */
    private static final String IN_SESSION = """
            open(1, 11, 1000) = 1; open(2, 22, 500) = 2; open(3, 33, 300) = 3; load(0, 10, 50) = 0; load(2, 25, 9) = 0
            insert(2) = 3; pin(0) = 2; eject() = 2; insert(3) = 3; pin(0) = 2; pin(0) = 1; pin(0) = 0
            insert(1) = 3; pin(11) = 3; withdraw(35) = 35; line(2) = 1; withdraw(40) = NO_ANSWER
            line(0) = 1; line(3) = 2; line(1) = 3; jam(1) = 1; power(4) = 1
            """;
    private static final String WITHOUT_SESSION = IN_SESSION + "eject() = 1\n";
    private static final String NOT_VERIFIED = WITHOUT_SESSION + "insert(2) = 2\n";
    private static final String DOWN_WHEN_SENT = IN_SESSION + "power(2) = 1; withdraw(50) = POWER; power(3) = 1\n";
    private static final String DOWN_WHEN_PAID = IN_SESSION + "withdraw(50) = POWER; power(3) = 1; jam(2) = 1\n";
    private static final String ALL_FULL = IN_SESSION + "power(0) = 0; withdraw(10) = 10; withdraw(10) = 10\n"
            + "line(2) = 2; withdraw(10) = NO_ANSWER; withdraw(10) = NO_ANSWER\n" + "withdraw(10) = 10\n".repeat(34)
            + "line(1) = 1; line(0) = 2; line(2) = 3; line(0) = 4; line(0) = 5; line(3) = 6; line(1) = 7; line(0) = 8\n"
            + "jam(1) = 1; power(4) = 1\n";

    private static final String WRONG_NUMBERS = """
            open(-1, 0, 0) throws IllegalArgumentException; open(8, 0, 0) throws IllegalArgumentException
            open(0, -1, 0) throws IllegalArgumentException; open(0, 10000, 0) throws IllegalArgumentException
            open(0, 0, -1) throws IllegalArgumentException; open(0, 0, 1000001) throws IllegalArgumentException
            load(-1, 1, 1) throws IllegalArgumentException; load(4, 1, 1) throws IllegalArgumentException
            load(0, 0, 1) throws IllegalArgumentException; load(0, 501, 1) throws IllegalArgumentException
            load(0, 1, -1) throws IllegalArgumentException; load(0, 1, 51) throws IllegalArgumentException
            mix(-1, 10) throws IllegalArgumentException; mix(4, 10) throws IllegalArgumentException
            mix(0, 0) throws IllegalArgumentException; mix(0, 5001) throws IllegalArgumentException
            mix(0, 1) throws UnsupportedOperationException; line(-1) throws IllegalArgumentException
            line(4) throws IllegalArgumentException; jam(-2) throws IllegalArgumentException
            jam(101) throws IllegalArgumentException; power(-1) throws IllegalArgumentException
            power(5) throws IllegalArgumentException; balance(0) throws NoSuchElementException
            balance(-1) throws NoSuchElementException; balance(8) throws NoSuchElementException
            trace(0, 0) throws NoSuchElementException; trace(41, 0) throws NoSuchElementException
            reversal(-1) throws NoSuchElementException; reversal(40) throws NoSuchElementException
            notes(-1) throws IllegalArgumentException; notes(4) throws IllegalArgumentException
            count(-1) throws IllegalArgumentException; count(8) throws IllegalArgumentException
            """;
    private static final String OPEN_ONES = """
            open(1, 5, 5) throws IllegalStateException; open(2, 5, 5) throws IllegalStateException
            open(3, 5, 5) throws IllegalStateException; trace(1, -1) throws IllegalArgumentException
            trace(1, 4) throws IllegalArgumentException
            """;
    private static final String NO_SESSION = """
            pin(11) throws IllegalStateException; pin(22) throws IllegalStateException
            eject() throws IllegalStateException; withdraw(10) throws IllegalStateException
            """;
    private static final String ANY_INSERT = """
            insert(0) throws IllegalStateException; insert(1) throws IllegalStateException
            insert(2) throws IllegalStateException; insert(3) throws IllegalStateException
            insert(8) throws IllegalStateException
            """;

    public static void main(String[] args) {
        refused("a new object", "", WRONG_NUMBERS, NO_SESSION, "boot() throws IllegalStateException",
                "insert(0) throws NoSuchElementException");
        refused("without a session", WITHOUT_SESSION, WRONG_NUMBERS, OPEN_ONES, NO_SESSION, """
                insert(0) throws NoSuchElementException; insert(-1) throws NoSuchElementException
                insert(8) throws NoSuchElementException; insert(3) throws UnsupportedOperationException
                boot() throws IllegalStateException
                """);
        refused("not verified", NOT_VERIFIED, WRONG_NUMBERS, OPEN_ONES, ANY_INSERT, """
                load(0, 1, 1) throws IllegalStateException; withdraw(10) throws IllegalStateException
                boot() throws IllegalStateException
                """);
        refused("in a session", IN_SESSION, WRONG_NUMBERS, OPEN_ONES, ANY_INSERT, """
                load(0, 1, 1) throws IllegalStateException; pin(11) throws IllegalStateException
                pin(0) throws IllegalStateException; boot() throws IllegalStateException
                withdraw(0) throws IllegalArgumentException; withdraw(5001) throws IllegalArgumentException
                withdraw(1) throws UnsupportedOperationException; withdraw(5000) throws UnsupportedOperationException
                """);
        refused("DOWN, SENT", DOWN_WHEN_SENT, WRONG_NUMBERS, OPEN_ONES, ANY_INSERT, NO_SESSION,
                "settle() throws IllegalStateException");
        refused("DOWN, paid", DOWN_WHEN_PAID, WRONG_NUMBERS, OPEN_ONES, ANY_INSERT, NO_SESSION,
                "settle() throws IllegalStateException");
        refused("all full", ALL_FULL, WRONG_NUMBERS, OPEN_ONES, ANY_INSERT, """
                withdraw(10) throws IndexOutOfBoundsException; line(0) throws IllegalStateException
                line(3) throws IllegalStateException
                """);
        Probe.end();
    }

    private static void refused(String state, String before, String... refusals) {
        Run.of("the way to the state: " + state, before);
        List<String> way = calls(before);
        List<String> aftermath = aftermath();
        List<String> twin = Run.answers(joined(way, aftermath));
        List<String> due = twin.subList(way.size(), twin.size());
        for (String step : Run.steps(refusals)) {
            List<String> got = Run.answers(joined(way, List.of(Run.call(step)), aftermath));
            Probe probe = new Probe(state);
            probe.compare(Run.call(step), Run.due(step), got.get(way.size()));
            for (int i = 0; i < due.size(); i++) {
                probe.compare(Run.call(step) + ", then " + aftermath.get(i), due.get(i), got.get(way.size() + 1 + i));
            }
        }
    }

    private static List<String> calls(String text) {
        return Run.steps(text).stream().map(Run::call).toList();
    }

    @SafeVarargs
    private static List<String> joined(List<String>... parts) {
        List<String> all = new ArrayList<>();
        for (List<String> part : parts) {
            all.addAll(part);
        }
        return all;
    }

    /** First a look at all that can be seen; then calls whose answers hang on what can not. */
    private static List<String> aftermath() {
        StringBuilder text = new StringBuilder("difference()\n");
        for (int i = 0; i < 8; i++) {
            text.append("count(%1$d); balance(%1$d); reversal(%1$d); notes(%1$d)\n".formatted(i));
        }
        for (int i = 1; i <= 40; i++) {
            text.append("trace(%1$d, 0); trace(%1$d, 1); trace(%1$d, 2); trace(%1$d, 3)\n".formatted(i));
        }
        text.append("withdraw(40); withdraw(30); pin(22); boot(); eject(); settle(); settle()\n");
        for (int account = 1; account <= 3; account++) {
            text.append("insert(%1$d); pin(%1$d%1$d); withdraw(20); withdraw(30); boot(); count(2); eject(); settle()\n"
                    .formatted(account));
            text.append("insert(%d); pin(0); eject()\n".formatted(account));
        }
        text.append("open(0, 0, 100); insert(0); pin(0); withdraw(10); eject(); difference()\n");
        for (int i = 0; i < 4; i++) {
            text.append("load(%1$d, 500, 50); notes(%1$d)\n".formatted(i));
        }
        return Run.steps(text.toString());
    }
}
