import java.lang.reflect.InvocationTargetException;
import java.util.ArrayList;
import java.util.Arrays;
import java.util.List;
import java.util.Map;

/**
 * A run of calls on a new object, told as a text. In each line, or behind each semicolon, stands a call with what is
 * due: {@code withdraw(20) = POWER} or {@code eject() throws IllegalStateException}.
 */
final class Run {
    private static final int MOST_CALLS = 512;
    private static final Map<String, String> NUMBERS = Map.of("DECLINED", "-1", "NO_ANSWER", "-2", "POWER", "-3");

    private final Probe probe;
    private int calls = 0;

    private Run(String sentence) {
        probe = new Probe(sentence);
    }

    /** Makes the calls, and tells each answer that is not the one that the sentence of the document asks for. */
    static void of(String sentence, String... texts) {
        Run run = new Run(sentence);
        for (String step : steps(texts)) {
            run.step(step);
        }
        run.end();
    }

    /** The answers, in their order, to calls of which none says what is due. */
    static List<String> answers(List<String> calls) {
        Run run = new Run("a run of " + calls.size() + " calls");
        List<String> answers = new ArrayList<>();
        for (String call : calls) {
            answers.add(run.answer(call));
        }
        run.end();
        return answers;
    }

    static List<String> steps(String... texts) {
        return Arrays.stream(String.join("\n", texts).split("[;\n]")).map(String::strip)
                .filter(step -> !step.isEmpty()).toList();
    }

    /** The call without what is due. */
    static String call(String step) {
        return step.substring(0, step.indexOf(')') + 1);
    }

    /** A number or the name of an exception. */
    static String due(String step) {
        String due = step.substring(step.lastIndexOf(' ') + 1);
        return NUMBERS.getOrDefault(due, due);
    }

    private void end() {
        probe.compare("within the calls that an object is granted", "true", String.valueOf(calls <= MOST_CALLS));
    }

    private void step(String step) {
        probe.compare("call " + (calls + 1) + ", " + call(step), due(step), answer(call(step)));
    }

    private String answer(String call) {
        calls++;
        String name = call.substring(0, call.indexOf('('));
        int[] arguments = arguments(call.substring(call.indexOf('(') + 1, call.indexOf(')')));
        return probe.answer(machine -> make(machine, name, arguments));
    }

    private static int[] arguments(String text) {
        return text.isEmpty() ? new int[0] : Arrays.stream(text.split(", ")).mapToInt(Integer::parseInt).toArray();
    }

    private static int make(CashMachine machine, String name, int[] arguments) {
        Class<?>[] types = new Class<?>[arguments.length];
        Arrays.fill(types, int.class);
        try {
            return (int) CashMachine.class.getMethod(name, types)
                    .invoke(machine, Arrays.stream(arguments).boxed().toArray());
        } catch (InvocationTargetException e) {
            throw (RuntimeException) e.getCause();
        } catch (NoSuchMethodException | IllegalAccessException e) {
            throw new AssertionError(name, e);
        }
    }
}
