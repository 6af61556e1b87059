import java.lang.reflect.Method;
import java.util.Random;

/** All promises: runs of calls drawn from fixed seeds, answered as the Oracle answers them. */
public final class RandomRunsTest {
    private static final Due DUE = new Due("RandomRunsTest");
    private static final String[] CALLS = {"letter c", "text", "points n", "line kind point point", "drop",
        "label line v", "turn line kind figure", "of line what", "taken line kind", "table point line", "sum point",
        "total", "rule rule", "ranked point", "ways rule k i line", "magic r i line", "difference j r", "settled",
        "orders i line", "spread", "odds rule k part", "lots rule times z part", "rank part", "parts point",
        "sides point", "written place", "list list size", "put list place v", "look list place", "lays list place",
        "judge list", "gives list", "rules list", "undo", "image", "on", "count number"};
    private static final String[] DEAR = {"ways", "magic", "difference", "settled", "orders", "spread", "odds"};

    private final Random random;
    private final LabelsOfLines x = new LabelsOfLines();
    private final Oracle oracle = new Oracle();
    private final int run;
    private int calls = 0;

    private RandomRunsTest(int run) {
        this.run = run;
        random = new Random(run);
    }

    public static void main(String[] args) throws ReflectiveOperationException {
        int runs = args.length > 0 ? Integer.parseInt(args[0]) : 300;
        for (int run = 0; run < runs && !DUE.isWrong(); run++) {
            new RandomRunsTest(run).go();
        }
        for (int run = runs; run < runs + 40 && !DUE.isWrong(); run++) {
            new RandomRunsTest(run).dearCallsOfManyLines();
        }
        DUE.end();
    }

    private void go() throws ReflectiveOperationException {
        int mostLines = 3 + random.nextInt(6);
        while (calls < 512 && !DUE.isWrong()) {
            int choice = random.nextInt(12);
            if (choice == 0) {
                text();
            } else if (choice == 1) {
                givenList();
            } else {
                String call = CALLS[random.nextInt(CALLS.length)];
                if (oracle.count(1) > mostLines && random.nextInt(3) > 0) {
                    ask("drop");
                }
                if (takesMuch(call) && random.nextInt(5) > 0) {
                    call = "line kind point point";
                }
                if (!isDear(call) || isNearEnough()) {
                    answer(call);
                }
            }
        }
    }

    private void dearCallsOfManyLines() throws ReflectiveOperationException {
        ask("points", 1 + random.nextInt(7));
        int lines = 6 + random.nextInt(3);
        for (int line = 0; line < lines; line++) {
            ask("line", random.nextInt(random.nextBoolean() ? 2 : 6), edged(0, oracle.count(0) - 1),
                edged(0, oracle.count(0) - 1));
            ask("turn", line, random.nextInt(random.nextBoolean() ? 2 : 6), random.nextInt(4));
        }
        int last = Math.max(0, oracle.count(1) - 1);
        for (int rule = 0; rule < 6; rule++) {
            ask("ways", rule, 1 + random.nextInt(2), -1, 0);
            ask("ways", rule, 2, random.nextInt(500), last);
            ask("odds", rule, 1, 0);
        }
        for (int r = 0; r < 4; r++) {
            ask("magic", r, -1, 0);
            ask("magic", r, random.nextInt(9), random.nextInt(last + 1));
        }
        ask("difference", 2, 1);
        ask("orders", -1, 0);
        ask("orders", random.nextInt(3000), last);
        ask("spread");
    }

    private static boolean isDear(String call) {
        for (String dear : DEAR) {
            if (call.startsWith(dear)) {
                return true;
            }
        }
        return false;
    }

    private static boolean takesMuch(String call) {
        return call.equals("points n") || call.equals("drop") || call.equals("on");
    }

    private boolean isNearEnough() {
        int[] oneOf = {1, 1, 1, 1, 1, 3, 12, 60, 240};
        return random.nextInt(oneOf[oracle.count(1)]) == 0;
    }

    private void answer(String call) throws ReflectiveOperationException {
        String[] words = call.split(" ");
        int[] numbers = new int[words.length - 1];
        for (int i = 0; i < numbers.length; i++) {
            numbers[i] = number(words[i + 1]);
        }
        ask(words[0], numbers);
    }

    private void ask(String name, int... numbers) throws ReflectiveOperationException {
        calls++;
        Class<?>[] types = new Class<?>[numbers.length];
        Object[] given = new Object[numbers.length];
        StringBuilder told = new StringBuilder("run " + run + ", call " + calls + ": " + name + "(");
        for (int i = 0; i < numbers.length; i++) {
            types[i] = int.class;
            given[i] = numbers[i];
            told.append(i > 0 ? ", " : "").append(numbers[i]);
        }
        Method one = LabelsOfLines.class.getDeclaredMethod(name, types);
        Method other = Oracle.class.getDeclaredMethod(name, types);
        long got = ((Number) one.invoke(x, given)).longValue();
        long want = ((Number) other.invoke(oracle, given)).longValue();
        DUE.is(told.append(")").toString(), got, want);
    }

    private void text() throws ReflectiveOperationException {
        StringBuilder text = new StringBuilder();
        if (random.nextInt(6) == 0) {
            text.append('n').append(1 + random.nextInt(7)).append(';');
        }
        int statements = random.nextInt(7);
        for (int i = 0; i < statements; i++) {
            char head = "lllfvvn".charAt(random.nextInt(random.nextInt(8) == 0 ? 7 : 6));
            text.append(head);
            int digits = head == 'n' ? 1 : head == 'f' ? 2 : 3;
            for (int d = 0; d < digits; d++) {
                text.append(random.nextInt(d == 0 || head == 'l' ? 1 + random.nextInt(8) : 10));
            }
            text.append(';');
        }
        if (random.nextInt(6) == 0 && text.length() > 0) {
            text.setCharAt(random.nextInt(text.length()), "nlfv;0x".charAt(random.nextInt(7)));
        }
        if (random.nextInt(8) == 0 && text.length() > 0) {
            text.setLength(random.nextInt(text.length()));
        }
        for (int i = 0; i < text.length(); i++) {
            ask("letter", text.charAt(i));
        }
        ask("text");
    }

    private void givenList() throws ReflectiveOperationException {
        int list = random.nextInt(3);
        int size = random.nextBoolean() ? oracle.count(1) : oracle.count(0);
        ask("list", list, size);
        for (int i = 0; i < size; i++) {
            ask("put", list, i, random.nextInt(random.nextInt(5) == 0 ? 110 : 8));
        }
        ask("gives", list);
        if (random.nextBoolean()) {
            ask("lays", list, 0);
        }
        ask("judge", list);
        ask("rules", list);
    }

    private int number(String what) {
        if (random.nextInt(60) == 0) {
            int[] odd = {Integer.MIN_VALUE, Integer.MAX_VALUE, -1, -2, 1000, -1000};
            return odd[random.nextInt(odd.length)];
        }
        switch (what) {
            case "c":
                return "nlfv;0123456789x".charAt(random.nextInt(16));
            case "n":
                return edged(1, 7);
            case "kind":
            case "rule":
                return edged(0, 5);
            case "point":
                return edged(0, oracle.count(0) - 1);
            case "line":
                return edged(0, oracle.count(1) - 1);
            case "v":
                return edged(0, 99);
            case "figure":
                return edged(0, 9);
            case "what":
            case "j":
            case "r":
                return edged(0, random.nextBoolean() ? 6 : 3);
            case "k":
                return edged(0, 3);
            case "i":
                return random.nextBoolean() ? -1 : random.nextInt(random.nextInt(3) == 0 ? 300 : 6);
            case "part":
                return edged(0, 1);
            case "times":
                return edged(1, 50);
            case "z":
                return random.nextInt();
            case "place":
                return edged(0, random.nextInt(4) == 0 ? 40 : 8);
            case "list":
                return edged(0, 2);
            case "size":
                return edged(0, random.nextBoolean() ? 40 : 8);
            default:
                return edged(0, 17);
        }
    }

    /** A number of a range, now and then the one ahead of it or behind it. */
    private int edged(int least, int most) {
        if (random.nextInt(12) == 0) {
            return random.nextBoolean() ? least - 1 : most + 1;
        }
        return least + random.nextInt(Math.max(1, most - least + 1));
    }
}
