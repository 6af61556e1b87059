import java.lang.reflect.Method;
import java.util.List;
import java.util.Map;
import java.util.Set;
import java.util.TreeSet;

/**
 * All promises: of each call all its arguments about their bounds, each with each, in some states,
 * answered as the Oracle answers; so each refusal meets each other one that fits too.
 */
public final class EdgesByOracleTest {
    private static final Due DUE = new Due("EdgesByOracleTest");
    private static final String CALLS = "letter c;text;points n;line kind point point;drop;label line v;"
        + "turn line kind figure;of line what;taken line kind;table point line;sum point;total;rule rule;ranked place;"
        + "ways rule k i line;magic r i line;difference j r;settled;orders i line;spread;odds rule k part;"
        + "lots rule times z part;rank part;parts point;sides point;written i;list list size;put list at v;look list at;"
        + "lays list at;judge list;gives list;rules list;undo;image;on;count number";
    private static final Set<String> DEAR = Set.of("ways", "magic", "difference", "settled", "orders", "spread", "odds");
    private static final Set<String> ON_LISTS = Set.of("list", "put", "lays", "gives", "on");
    private static final Map<String, Integer> GREATEST = Map.ofEntries(Map.entry("c", 255), Map.entry("n", 7),
        Map.entry("kind", 5), Map.entry("v", 99), Map.entry("figure", 9), Map.entry("what", 6), Map.entry("rule", 5),
        Map.entry("k", 3), Map.entry("r", 6), Map.entry("j", 6), Map.entry("part", 1), Map.entry("times", 50),
        Map.entry("list", 2), Map.entry("size", 40), Map.entry("number", 16), Map.entry("z", 1000), Map.entry("i", 5));

    private final int state;
    private Asked x;
    private Oracle oracle;

    private EdgesByOracleTest(int state) {
        this.state = state;
    }

    public static void main(String[] args) throws ReflectiveOperationException {
        for (int state = 0; state < 5; state++) {
            EdgesByOracleTest here = new EdgesByOracleTest(state);
            for (String call : CALLS.split(";")) {
                here.all(call.split(" "));
            }
        }
        DUE.end();
    }

    private void all(String[] words) throws ReflectiveOperationException {
        begin();
        int many = words.length - 1;
        int[][] edges = new int[many][];
        int all = 1;
        for (int i = 0; i < many; i++) {
            edges[i] = edgesOf(words[i + 1]);
            all *= edges[i].length;
        }
        for (int choice = 0; choice < all; choice++) {
            int[] numbers = new int[many];
            int rest = choice;
            for (int i = 0; i < many; i++) {
                numbers[i] = edges[i][rest % edges[i].length];
                rest /= edges[i].length;
            }
            begin();
            compare(words[0], numbers);
        }
    }

    private int[] edgesOf(String what) throws ReflectiveOperationException {
        int greatest = GREATEST.getOrDefault(what, 0);
        switch (what) {
            case "point":
            case "place":
                greatest = oracle.count(0) - 1;
                break;
            case "line":
                greatest = oracle.count(1) - 1;
                break;
            case "at":
                greatest = state == 0 ? 0 : 40 - oracle.count(0);
                break;
            default:
                break;
        }
        TreeSet<Integer> edges = new TreeSet<>(List.of(Integer.MIN_VALUE, -2, -1, 0, 1, greatest, greatest + 1,
            Integer.MAX_VALUE));
        if (what.equals("at")) {
            edges.addAll(List.of(2, 3, 39, 40));
        }
        return edges.stream().mapToInt(Integer::intValue).toArray();
    }

    private void compare(String name, int[] numbers) throws ReflectiveOperationException {
        StringBuilder row = new StringBuilder("state " + state + ", " + name + "(");
        for (int i = 0; i < numbers.length; i++) {
            row.append(i > 0 ? ", " : "").append(numbers[i]);
        }
        row.append(")");
        long got = x.ask(name, numbers);
        if (DEAR.contains(name) && oracle.count(1) == 8 && !isRefusal(name, got)) {
            return;
        }
        DUE.is(row.toString(), got, oracle(name, numbers));
        for (int what = 0; what < 18; what++) {
            DUE.is(row + " and count(" + what + ")", x.ask("count", what), oracle.count(what));
        }
        for (int place = 0; ON_LISTS.contains(name) && place < 3 * 41; place++) {
            DUE.is(row + " and place " + place, x.ask("look", place / 41, place % 41), oracle.look(place / 41, place % 41));
        }
        int many = oracle.written(-1);
        for (int i = -1; i < many; i++) {
            DUE.is(row + " and written(" + i + ")", x.ask("written", i), oracle.written(i));
        }
    }

    private static boolean isRefusal(String name, long got) {
        return name.equals("difference") ? got > 1000000000 : got > 4000000000000000000L || got < 0 && got != -9;
    }

    private long oracle(String name, int... numbers) throws ReflectiveOperationException {
        Class<?>[] types = new Class<?>[numbers.length];
        Object[] given = new Object[numbers.length];
        for (int i = 0; i < numbers.length; i++) {
            types[i] = int.class;
            given[i] = numbers[i];
        }
        Method method = Oracle.class.getDeclaredMethod(name, types);
        return ((Number) method.invoke(oracle, given)).longValue();
    }

    private void both(String name, int... numbers) throws ReflectiveOperationException {
        x.ask(name, numbers);
        oracle(name, numbers);
    }

    private void text(String text) throws ReflectiveOperationException {
        for (char c : text.toCharArray()) {
            both("letter", c);
        }
        both("text");
    }

    private void list(int list, int size, int... numbers) throws ReflectiveOperationException {
        both("list", list, size);
        for (int i = 0; i < numbers.length; i++) {
            both("put", list, i, numbers[i]);
        }
    }

    /** A new object; one POINT and no LINES; two LINES; eight LINES and 72 letters; all that can be. */
    private void begin() throws ReflectiveOperationException {
        x = new Asked();
        oracle = new Oracle();
        switch (state) {
            case 1:
                both("points", 1);
                list(0, 0);
                list(1, 40);
                both("gives", 0);
                break;
            case 2:
                text("n3;l401;f03;l512;v004;");
                list(0, 2, 99, 0);
                list(1, 40, 12, 100, -1);
                list(2, 7, 1, 2, 3, 4, 5, 6, 14);
                both("label", 1, 9);
                break;
            case 3:
                text("n7;l001;l112;l223;l334;l445;l556;l060;l113;");
                list(0, 8, 0, 1, 2, 3, 4, 5, 6, 7);
                list(1, 40);
                list(2, 1);
                for (char c : "n1;".repeat(24).toCharArray()) {
                    both("letter", c);
                }
                break;
            case 4:
                text("n2;l000;l301;");
                both("image");
                text("n2;l001;l011;l100;");
                list(0, 3, 5, 100, 7);
                list(2, 8);
                for (int v = 1; v < 10; v++) {
                    both("label", v % 3, v);
                }
                for (char c : "l000;v005;n".toCharArray()) {
                    both("letter", c);
                }
                break;
            default:
                break;
        }
    }
}
