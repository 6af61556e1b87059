import java.util.ArrayList;
import java.util.Arrays;
import java.util.List;
import java.util.Set;
import java.util.regex.Matcher;
import java.util.regex.Pattern;

/**
 * A run of calls on a new object, each with the answer that is due, as one boundary case of the
 * document asks for it. Of each call that is refused or that only asks, it is tested too that nothing
 * changes but how many refusals of its number there were: two new objects live through the calls
 * ahead of it, one of them through it too, and both tell all that there is to tell.
 */
final class Story {
    private static final Set<String> CHANGING = Set.of("letter", "text", "points", "line", "drop", "label", "turn",
        "list", "put", "lays", "gives", "undo", "image", "on");
    private static final Pattern CALL =
        Pattern.compile("\\s*(\\w+)\\(([^)]*)\\) = (-?\\d+|least|most|'.')\\s*(;|$)");
    private static final long LONGS = 4000000000000000000L;
    private static final long DIFFERENCES = 1000000000L;
    private static final int LEAST_REFUSAL = -16;

    private record Call(String name, int[] numbers) {
        long on(Asked x) {
            return x.ask(name, numbers);
        }
    }

    private final Due due;
    private final String told;
    private final Asked x = new Asked();
    private final List<Call> log = new ArrayList<>();
    private int letters = 0;

    Story(Due due, String told) {
        this.due = due;
        this.told = told;
    }

    /** Calls as "points(3) = 4; letter('n') = 1; label(0, least) = -4". */
    Story calls(String calls) {
        Matcher call = CALL.matcher(calls);
        int at = 0;
        while (at < calls.length()) {
            if (!call.find(at) || call.start() != at) {
                throw new IllegalArgumentException("not told as calls are: " + calls.substring(at));
            }
            String[] words = call.group(2).isEmpty() ? new String[0] : call.group(2).split(", ");
            int[] numbers = Arrays.stream(words).mapToInt(w -> (int) number(w)).toArray();
            ask(number(call.group(3)), call.group(1), numbers);
            at = call.end();
        }
        return this;
    }

    private static long number(String word) {
        switch (word) {
            case "least":
                return Integer.MIN_VALUE;
            case "most":
                return Integer.MAX_VALUE;
            default:
                return word.startsWith("'") ? word.charAt(1) : Long.parseLong(word);
        }
    }

    /** Each letter of a text comes, for all of which there must be room. */
    Story letters(String text) {
        for (char c : text.toCharArray()) {
            letters++;
            ask(letters, "letter", c);
        }
        return this;
    }

    Story text(String text, int answer) {
        letters(text);
        letters = 0;
        ask(answer, "text");
        return this;
    }

    /** A LIST becomes a row of these numbers. */
    Story list(int list, int... numbers) {
        ask(1, "list", list, numbers.length);
        for (int i = 0; i < numbers.length; i++) {
            ask(1, "put", list, i, numbers[i]);
        }
        return this;
    }

    /** What is WRITTEN is this text. */
    Story written(String text) {
        ask(text.length(), "written", -1);
        for (int i = 0; i < text.length(); i++) {
            ask(text.charAt(i), "written", i);
        }
        return this;
    }

    Story ask(long answer, String name, int... numbers) {
        Call call = new Call(name, numbers);
        String row = told + ": call " + (log.size() + 1) + ", " + name + Arrays.toString(numbers);
        long got = call.on(x);
        due.is(row, got, answer);
        int number = refusalIn(name, got);
        if (number != 0 || !CHANGING.contains(name)) {
            leavesAll(call, number, row);
        }
        log.add(call);
        return this;
    }

    /** The number of the refusal that an answer tells, 0 if it tells none. */
    private static int refusalIn(String name, long got) {
        long number = got;
        if (name.equals("odds") || name.equals("look")) {
            number = LONGS - got;
        } else if (name.equals("difference")) {
            number = DIFFERENCES - got;
        }
        return !name.equals("text") && number < 0 && number >= LEAST_REFUSAL && number != -9 ? (int) number : 0;
    }

    private void leavesAll(Call call, int number, String row) {
        Asked without = new Asked();
        Asked with = new Asked();
        for (Call ahead : log) {
            ahead.on(without);
            ahead.on(with);
        }
        call.on(with);
        for (int refusal = -1; refusal >= -6; refusal--) {
            long more = with.ask("count", 10 - refusal) - without.ask("count", 10 - refusal);
            due.is(row + ": more refusals " + refusal, more, refusal == number ? 1 : 0);
        }
        due.is(row + ": what there is but for refusals stays", all(with).equals(all(without)) ? 1 : 0, 1);
    }

    private static List<Long> all(Asked x) {
        List<Long> all = new ArrayList<>();
        for (int what = 0; what <= 4; what++) {
            all.add(x.ask("count", what));
        }
        lists(x, all);
        net(x, all);
        for (int undone = 0; undone < 9 && x.ask("undo") >= 0; undone++) {
            net(x, all);
        }
        all.add(x.ask("text"));
        net(x, all);
        all.add(x.ask("on"));
        net(x, all);
        return all;
    }

    private static void lists(Asked x, List<Long> all) {
        for (int list = 0; list < 3; list++) {
            for (int i = 0; i <= 40; i++) {
                long at = x.ask("look", list, i);
                all.add(at);
                if (at >= LONGS) {
                    break;
                }
            }
        }
    }

    private static void net(Asked x, List<Long> all) {
        all.add(x.ask("count", 0));
        long lines = x.ask("count", 1);
        all.add(lines);
        for (int line = 0; line < lines; line++) {
            for (int what = 0; what <= 4; what++) {
                all.add(x.ask("of", line, what));
            }
        }
    }
}
