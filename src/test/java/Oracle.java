import java.math.BigInteger;
import java.util.ArrayDeque;
import java.util.ArrayList;
import java.util.Arrays;
import java.util.Deque;
import java.util.List;

/**
 * The document once more, written apart from the class and in another way (lists of objects,
 * labels tried one by one without a shorter way), to compare answers with.
 */
final class Oracle {
    private record Line(int kind, int figure, int one, int other, int label) {
        int plainForth(int k) {
            return switch (k) {
                case 0, 1, 5 -> 1;
                case 2 -> 2 * plainForth(0);
                case 3 -> plainBack(1);
                default -> plainForth(2) + figure;
            };
        }

        int plainBack(int k) {
            return switch (k) {
                case 0 -> 1;
                case 1 -> 0;
                case 2, 4 -> 2 * plainBack(0);
                case 3 -> plainForth(1);
                default -> figure % 2 == 1 ? plainBack(0) - 1 : plainBack(0);
            };
        }

        int weight(int point) {
            int all = 0;
            if (point == one) {
                all += plainForth(kind);
            }
            if (point == other) {
                all += plainBack(kind);
            }
            return all;
        }

        Line with(int newLabel) {
            return new Line(kind, figure, one, other, newLabel);
        }
    }

    private static final int[] UP = {-1, 0, 0, 1, 2, 0};

    private int n = 4;
    private List<Line> lines = new ArrayList<>();
    private final StringBuilder letters = new StringBuilder();
    private final Deque<List<Line>> undone = new ArrayDeque<>();
    private final int[][] lists = new int[3][];
    private final int[] refusals = new int[7];
    private int imagePoints = -1;
    private List<Line> imageLines = null;

    private int no(int number) {
        refusals[-number]++;
        return number;
    }

    private long longNo(int number) {
        return 4000000000000000000L - no(number);
    }

    private boolean noPoint(int p) {
        return p < 0 || p >= n;
    }

    private boolean noLine(int l) {
        return l < 0 || l >= lines.size();
    }

    private void remember() {
        undone.addLast(new ArrayList<>(lines));
        if (undone.size() > 8) {
            undone.removeFirst();
        }
    }

    int letter(int c) {
        if (c < 0) {
            return no(-4);
        }
        if (c > 255 || letters.length() == 72) {
            return no(-6);
        }
        letters.append((char) c);
        return letters.length();
    }

    int text() {
        String text = letters.toString();
        letters.setLength(0);
        for (int i = 0; i <= text.length(); i++) {
            if (!canGoOn(text.substring(0, i))) {
                return -1000 - (i - 1);
            }
        }
        if (!text.matches("(n\\d;|l\\d{3};|f\\d{2};|v\\d{3};)+")) {
            return -1000 - text.length();
        }
        int oldPoints = n;
        List<Line> old = new ArrayList<>(lines);
        int place = 0;
        int many = 0;
        for (String statement : text.split(";")) {
            if (!apply(statement)) {
                n = oldPoints;
                lines = old;
                return -2000 - place;
            }
            place += statement.length() + 1;
            many++;
        }
        undone.clear();
        return many;
    }

    private static boolean canGoOn(String start) {
        String whole = "(n\\d;|l\\d{3};|f\\d{2};|v\\d{3};)*";
        return start.matches(whole + "(n\\d?|l\\d{0,3}|f\\d{0,2}|v\\d{0,3})?");
    }

    private boolean apply(String statement) {
        int[] d = statement.substring(1).chars().map(c -> c - '0').toArray();
        switch (statement.charAt(0)) {
            case 'n':
                if (d[0] < 1 || d[0] > 7) {
                    return false;
                }
                n = d[0];
                lines = new ArrayList<>();
                return true;
            case 'l':
                if (d[0] > 5 || noPoint(d[1]) || noPoint(d[2]) || lines.size() == 8) {
                    return false;
                }
                lines.add(new Line(d[0], 0, d[1], d[2], 0));
                return true;
            case 'f':
                if (noLine(d[0])) {
                    return false;
                }
                Line f = lines.get(d[0]);
                lines.set(d[0], new Line(f.kind, d[1], f.one, f.other, f.label));
                return true;
            default:
                if (noLine(d[0])) {
                    return false;
                }
                lines.set(d[0], lines.get(d[0]).with(Integer.parseInt(statement.substring(2))));
                return true;
        }
    }

    int points(int many) {
        if (many < 1) {
            return no(-4);
        }
        if (many > 7) {
            return no(-6);
        }
        int were = n;
        n = many;
        lines = new ArrayList<>();
        undone.clear();
        return were;
    }

    int line(int kind, int one, int other) {
        if (kind < 0 || kind > 5) {
            return no(-2);
        }
        if (noPoint(one) || noPoint(other)) {
            return no(-1);
        }
        if (lines.size() == 8) {
            return no(-6);
        }
        lines.add(new Line(kind, 0, one, other, 0));
        undone.clear();
        return lines.size() - 1;
    }

    int drop() {
        if (lines.isEmpty()) {
            return no(-3);
        }
        lines.remove(lines.size() - 1);
        undone.clear();
        return lines.size();
    }

    int label(int line, int v) {
        if (noLine(line)) {
            return no(-1);
        }
        if (v < 0) {
            return no(-4);
        }
        if (v > 99) {
            return no(-6);
        }
        remember();
        return lines.set(line, lines.get(line).with(v)).label;
    }

    int turn(int line, int kind, int figure) {
        if (noLine(line)) {
            return no(-1);
        }
        if (kind < 0 || kind > 5) {
            return no(-2);
        }
        if (figure < 0) {
            return no(-4);
        }
        if (figure > 9) {
            return no(-6);
        }
        remember();
        Line was = lines.get(line);
        lines.set(line, new Line(kind, figure, was.one, was.other, was.label));
        return 10 * was.kind + was.figure;
    }

    int of(int line, int what) {
        if (noLine(line)) {
            return no(-1);
        }
        if (what < 0 || what > 6) {
            return no(-2);
        }
        Line l = lines.get(line);
        return new int[] {l.kind, l.figure, l.one, l.other, l.label, l.plainForth(l.kind), l.plainBack(l.kind)}[what];
    }

    int taken(int line, int kind) {
        if (noLine(line)) {
            return no(-1);
        }
        if (kind < 0 || kind > 5) {
            return no(-2);
        }
        for (int k = lines.get(line).kind; k >= 0; k = UP[k]) {
            if (k == kind) {
                return lines.get(line).kind;
            }
        }
        return -16;
    }

    int table(int point, int line) {
        return noPoint(point) || noLine(line) ? no(-1) : lines.get(line).weight(point);
    }

    private int[] sumsBy(int[] labels) {
        int[] sums = new int[n];
        for (int p = 0; p < n; p++) {
            for (int l = 0; l < lines.size(); l++) {
                sums[p] += lines.get(l).weight(p) * labels[l];
            }
        }
        return sums;
    }

    private int[] sums() {
        return sumsBy(lines.stream().mapToInt(l -> l.label).toArray());
    }

    int sum(int point) {
        return noPoint(point) ? no(-1) : sums()[point];
    }

    int total() {
        return Arrays.stream(sums()).sum();
    }

    private static boolean keeps(int rule, int[] sums) {
        int kinds = (int) Arrays.stream(sums).distinct().count();
        switch (rule) {
            case 0:
                return kinds == 1;
            case 1:
                return kinds == sums.length;
            case 2:
                int[] sorted = Arrays.stream(sums).sorted().toArray();
                return kinds == sums.length && Arrays.equals(sorted, sums);
            case 3:
                return Arrays.stream(sums).allMatch(s -> s % 2 == 0);
            case 4:
                return Arrays.stream(sums).max().orElse(0) <= 2 * sums.length;
            default:
                return kinds != 1 && kinds != sums.length;
        }
    }

    int rule(int rule) {
        if (rule < 0 || rule > 5) {
            return no(-2);
        }
        return keeps(rule, sums()) ? 1 : 0;
    }

    int ranked(int k) {
        if (k < 0) {
            return no(-4);
        }
        if (k >= n) {
            return -9;
        }
        int[] sums = sums();
        List<Integer> places = new ArrayList<>();
        for (int p = 0; p < n; p++) {
            places.add(p);
        }
        places.sort((a, b) -> sums[a] != sums[b] ? sums[b] - sums[a] : a - b);
        return places.get(k);
    }

    private interface Keep {
        boolean is(int[] sums);
    }

    /** All labels least .. most, in their order, no sum above a bound, each once if it is asked. */
    private void tryAll(int[] labels, int at, int least, int most, int bound, boolean once, Keep keep,
            List<int[]> found) {
        int[] soFar = sumsBy(labels);
        if (Arrays.stream(soFar).anyMatch(s -> s > bound)) {
            return;
        }
        if (at == labels.length) {
            if (keep.is(soFar)) {
                found.add(labels.clone());
            }
            return;
        }
        for (int v = least; v <= most; v++) {
            boolean there = false;
            for (int l = 0; l < at; l++) {
                there |= once && labels[l] == v;
            }
            if (!there) {
                labels[at] = v;
                tryAll(labels, at + 1, least, most, bound, once, keep, found);
            }
        }
        labels[at] = 0;
    }

    private List<int[]> waysOf(int rule, int k) {
        List<int[]> found = new ArrayList<>();
        tryAll(new int[lines.size()], 0, 0, k, Integer.MAX_VALUE, false, s -> keeps(rule, s), found);
        return found;
    }

    private List<int[]> magicOf(int r) {
        List<int[]> found = new ArrayList<>();
        tryAll(new int[lines.size()], 0, 0, r, r, false, s -> Arrays.stream(s).allMatch(one -> one == r), found);
        return found;
    }

    private List<int[]> ordersOf() {
        List<int[]> found = new ArrayList<>();
        int m = lines.size();
        tryAll(new int[m], 0, 1, m, Integer.MAX_VALUE, true, s -> keeps(1, s), found);
        return found;
    }

    private static int told(List<int[]> found, int i, int line) {
        return i == -1 ? found.size() : i < found.size() ? found.get(i)[line] : -9;
    }

    int ways(int rule, int k, int i, int line) {
        if (rule < 0 || rule > 5) {
            return no(-2);
        }
        if (k < 0 || i < -1) {
            return no(-4);
        }
        if (k > 3) {
            return no(-6);
        }
        if (i != -1 && noLine(line)) {
            return no(-1);
        }
        return told(waysOf(rule, k), i, line);
    }

    int magic(int r, int i, int line) {
        if (r < 0 || i < -1) {
            return no(-4);
        }
        if (r > 6) {
            return no(-6);
        }
        if (i != -1 && noLine(line)) {
            return no(-1);
        }
        return told(magicOf(r), i, line);
    }

    private int differenceOf(int j, int r) {
        return j == 0 ? magicOf(r).size() : differenceOf(j - 1, r + 1) - differenceOf(j - 1, r);
    }

    int difference(int j, int r) {
        if (j < 0 || r < 0) {
            return 1000000000 - no(-4);
        }
        if ((long) j + r > 6) {
            return 1000000000 - no(-6);
        }
        return differenceOf(j, r);
    }

    int settled() {
        int[] row = new int[7];
        for (int r = 0; r < 7; r++) {
            row[r] = magicOf(r).size();
        }
        int j = 0;
        while (Arrays.stream(row).distinct().count() > 1) {
            int[] next = new int[row.length - 1];
            for (int r = 0; r < next.length; r++) {
                next[r] = row[r + 1] - row[r];
            }
            row = next;
            j++;
        }
        return j;
    }

    int orders(int i, int line) {
        if (i < -1) {
            return no(-4);
        }
        if (i != -1 && noLine(line)) {
            return no(-1);
        }
        return told(ordersOf(), i, line);
    }

    int spread() {
        return ordersOf().stream().map(this::sumsBy)
            .mapToInt(s -> Arrays.stream(s).max().orElse(0) - Arrays.stream(s).min().orElse(0)).min().orElse(-9);
    }

    long odds(int rule, int k, int part) {
        if (rule < 0 || rule > 5) {
            return longNo(-2);
        }
        if (k < 0) {
            return longNo(-4);
        }
        if (k > 3) {
            return longNo(-6);
        }
        if (part < 0 || part > 1) {
            return longNo(-2);
        }
        BigInteger above = BigInteger.valueOf(waysOf(rule, k).size());
        BigInteger below = BigInteger.valueOf(k + 1).pow(lines.size());
        return (part == 0 ? above : below).divide(above.gcd(below)).longValue();
    }

    int lots(int rule, int many, int z, int what) {
        if (rule < 0 || rule > 5) {
            return no(-2);
        }
        if (many < 1) {
            return no(-4);
        }
        if (many > 50) {
            return no(-6);
        }
        if (what < 0 || what > 1) {
            return no(-2);
        }
        long state = z;
        int often = 0;
        int totals = 0;
        for (int time = 0; time < many; time++) {
            int[] labels = new int[lines.size()];
            for (int l = 0; l < labels.length; l++) {
                state = Math.floorMod(state * 1664525 + 1013904223, 1L << 32);
                labels[l] = (int) (state % (1L << 31) / 256 % 10);
            }
            int[] sums = sumsBy(labels);
            often += keeps(rule, sums) ? 1 : 0;
            totals += Arrays.stream(sums).sum();
        }
        return what == 0 ? often : totals;
    }

    int rank(int what) {
        if (what < 0 || what > 1) {
            return no(-2);
        }
        BigInteger[][] rows = new BigInteger[n][lines.size()];
        for (int p = 0; p < n; p++) {
            for (int l = 0; l < lines.size(); l++) {
                rows[p][l] = BigInteger.valueOf(lines.get(l).weight(p));
            }
        }
        int rank = 0;
        boolean[] used = new boolean[n];
        for (int l = 0; l < lines.size(); l++) {
            int head = -1;
            for (int p = n - 1; p >= 0; p--) {
                head = !used[p] && rows[p][l].signum() != 0 ? p : head;
            }
            if (head < 0) {
                continue;
            }
            used[head] = true;
            rank++;
            for (int p = 0; p < n; p++) {
                if (!used[p]) {
                    BigInteger own = rows[p][l];
                    for (int at = 0; at < lines.size(); at++) {
                        rows[p][at] = rows[p][at].multiply(rows[head][l]).subtract(rows[head][at].multiply(own));
                    }
                }
            }
        }
        return what == 0 ? rank : lines.size() - rank;
    }

    private int[] roots() {
        int[] root = new int[n];
        for (int p = 0; p < n; p++) {
            root[p] = p;
        }
        for (Line l : lines) {
            int high = Math.max(root[l.one], root[l.other]);
            int low = Math.min(root[l.one], root[l.other]);
            for (int p = 0; p < n; p++) {
                root[p] = root[p] == high ? low : root[p];
            }
        }
        return root;
    }

    int parts(int point) {
        int[] root = roots();
        if (point == -1) {
            return (int) Arrays.stream(root).distinct().count();
        }
        if (noPoint(point)) {
            return no(-1);
        }
        int bits = 0;
        for (int p = 0; p < n; p++) {
            bits += root[p] == root[point] ? 1 << p : 0;
        }
        return bits;
    }

    int sides(int point) {
        if (point != -1 && noPoint(point)) {
            return no(-1);
        }
        int[] root = roots();
        for (int sides = 0; sides < 1 << n; sides++) {
            boolean good = true;
            for (int p = 0; p < n; p++) {
                good &= (sides >> root[p]) % 2 == 0;
            }
            for (Line l : lines) {
                good &= (sides >> l.one) % 2 != (sides >> l.other) % 2;
            }
            if (good) {
                return point == -1 ? 1 : (sides >> point) % 2;
            }
        }
        return point == -1 ? 0 : -9;
    }

    int written(int i) {
        if (i < -1) {
            return no(-4);
        }
        StringBuilder all = new StringBuilder("n" + n + ";");
        for (int l = 0; l < lines.size(); l++) {
            Line line = lines.get(l);
            all.append("l" + line.kind + line.one + line.other + ";");
            all.append(line.figure == 0 ? "" : "f" + l + line.figure + ";");
            all.append(line.label == 0 ? "" : String.format("v%d%02d;", l, line.label));
        }
        return i == -1 ? all.length() : i < all.length() ? all.charAt(i) : -9;
    }

    int list(int list, int size) {
        if (list < 0 || list > 2) {
            return no(-1);
        }
        if (size > 40) {
            return no(-6);
        }
        if (size < 0) {
            return -14;
        }
        lists[list] = new int[size];
        return 1;
    }

    private int noPlace(int list, int i) {
        if (list < 0 || list > 2) {
            return no(-1);
        }
        if (lists[list] == null) {
            return -11;
        }
        return i < 0 || i >= lists[list].length ? -13 : 0;
    }

    private int noList(int list) {
        int number = noPlace(list, 0);
        return number == -13 ? 0 : number;
    }

    int put(int list, int i, int v) {
        int number = noPlace(list, i);
        if (number == 0) {
            lists[list][i] = v;
        }
        return number == 0 ? 1 : number;
    }

    long look(int list, int i) {
        int number = noPlace(list, i);
        return number == 0 ? lists[list][i] : 4000000000000000000L - number;
    }

    int lays(int list, int i) {
        int number = noList(list);
        if (number != 0) {
            return number;
        }
        if (i < 0 || (long) i + n > lists[list].length) {
            return -13;
        }
        int[] sums = sums();
        for (int p = 0; p < n; p++) {
            lists[list][i + p] = sums[p];
        }
        return n;
    }

    int judge(int list) {
        int number = noList(list);
        if (number != 0) {
            return number;
        }
        int place = Arrays.mismatch(lists[list], sums());
        return place < 0 || place == lists[list].length ? -9 : place;
    }

    int gives(int list) {
        int number = noList(list);
        if (number != 0) {
            return number;
        }
        boolean fits = lists[list].length == lines.size();
        for (int v : lists[list]) {
            fits &= v >= 0 && v <= 99;
        }
        if (!fits) {
            return no(-3);
        }
        remember();
        for (int l = 0; l < lines.size(); l++) {
            lines.set(l, lines.get(l).with(lists[list][l]));
        }
        return lines.size();
    }

    int rules(int list) {
        int number = noList(list);
        if (number != 0) {
            return number;
        }
        if (lists[list].length == 0 || lists[list].length > 7) {
            return no(-3);
        }
        int bits = 0;
        for (int rule = 0; rule < 6; rule++) {
            bits += keeps(rule, lists[list]) ? 1 << rule : 0;
        }
        return bits;
    }

    int undo() {
        if (undone.isEmpty()) {
            return no(-3);
        }
        lines = undone.removeLast();
        return undone.size();
    }

    int image() {
        imagePoints = n;
        imageLines = new ArrayList<>(lines);
        return lines.size();
    }

    int on() {
        if (imageLines == null) {
            return no(-3);
        }
        n = imagePoints;
        lines = new ArrayList<>(imageLines);
        undone.clear();
        return lines.size();
    }

    int count(int what) {
        if (what >= 11 && what <= 16) {
            return refusals[what - 10];
        }
        return switch (what) {
            case 0 -> n;
            case 1 -> lines.size();
            case 2 -> letters.length();
            case 3 -> undone.size();
            case 4 -> lines.stream().mapToInt(l -> l.label).sum();
            default -> -9;
        };
    }
}
